set_option maxRecDepth 20000 in
theorem ggX6_init_X6_begins : GoodIn wsX6_init wsX6_begins := goodIn_r _ [23, 5, 24, 25, 26, 27, 28, 29, 30, 31, 32, 33, 34, 35, 36, 37, 38, 39, 40, 41, 42, 43, 44, 45, 46, 47, 48, 49, 50] (by decide +kernel) (by decide +kernel)
set_option maxRecDepth 20000 in
theorem gX6_init_X6_begins : GoodIn wsX6_init (wsV RX6 52 RX6 yX6_begins wsX6_begins) := goodIn_app (goodIn_of _ (by decide +kernel)) ggX6_init_X6_begins
theorem dX6_init_0 : decode cX6_init 0 = .ok (.aload_n 0, 1) := by decide +kernel
theorem dX6_init_1 : decode cX6_init 1 = .ok (.invokespecial 1, 3) := by decide +kernel
theorem dX6_init_4 : decode cX6_init 4 = .ok (.aload_n 0, 1) := by decide +kernel
theorem dX6_init_5 : decode cX6_init 5 = .ok (.bipush 50, 2) := by decide +kernel
theorem dX6_init_7 : decode cX6_init 7 = .ok (.newarray .int, 2) := by decide +kernel
theorem dX6_init_9 : decode cX6_init 9 = .ok (.putfield 7, 3) := by decide +kernel
theorem dX6_init_12 : decode cX6_init 12 = .ok (.aload_n 0, 1) := by decide +kernel
theorem dX6_init_13 : decode cX6_init 13 = .ok (.bipush 50, 2) := by decide +kernel
theorem dX6_init_15 : decode cX6_init 15 = .ok (.newarray .int, 2) := by decide +kernel
theorem dX6_init_17 : decode cX6_init 17 = .ok (.putfield 13, 3) := by decide +kernel
theorem dX6_init_20 : decode cX6_init 20 = .ok (.aload_n 0, 1) := by decide +kernel
theorem dX6_init_21 : decode cX6_init 21 = .ok (.bipush 50, 2) := by decide +kernel
theorem dX6_init_23 : decode cX6_init 23 = .ok (.newarray .int, 2) := by decide +kernel
theorem dX6_init_25 : decode cX6_init 25 = .ok (.putfield 16, 3) := by decide +kernel
theorem dX6_init_28 : decode cX6_init 28 = .ok (.aload_n 0, 1) := by decide +kernel
theorem dX6_init_29 : decode cX6_init 29 = .ok (.bipush 50, 2) := by decide +kernel
theorem dX6_init_31 : decode cX6_init 31 = .ok (.newarray .int, 2) := by decide +kernel
theorem dX6_init_33 : decode cX6_init 33 = .ok (.putfield 19, 3) := by decide +kernel
theorem dX6_init_36 : decode cX6_init 36 = .ok (.aload_n 0, 1) := by decide +kernel
theorem dX6_init_37 : decode cX6_init 37 = .ok (.sipush 200, 3) := by decide +kernel
theorem dX6_init_40 : decode cX6_init 40 = .ok (.newarray .int, 2) := by decide +kernel
theorem dX6_init_42 : decode cX6_init 42 = .ok (.putfield 22, 3) := by decide +kernel
theorem dX6_init_45 : decode cX6_init 45 = .ok (.aload_n 0, 1) := by decide +kernel
theorem dX6_init_46 : decode cX6_init 46 = .ok (.bipush 12, 2) := by decide +kernel
theorem dX6_init_48 : decode cX6_init 48 = .ok (.newarray .int, 2) := by decide +kernel
theorem dX6_init_50 : decode cX6_init 50 = .ok (.putfield 25, 3) := by decide +kernel
theorem dX6_init_53 : decode cX6_init 53 = .ok (.aload_n 0, 1) := by decide +kernel
theorem dX6_init_54 : decode cX6_init 54 = .ok (.bipush 30, 2) := by decide +kernel
theorem dX6_init_56 : decode cX6_init 56 = .ok (.newarray .int, 2) := by decide +kernel
theorem dX6_init_58 : decode cX6_init 58 = .ok (.putfield 28, 3) := by decide +kernel
theorem dX6_init_61 : decode cX6_init 61 = .ok (.aload_n 0, 1) := by decide +kernel
theorem dX6_init_62 : decode cX6_init 62 = .ok (.iconst 4, 1) := by decide +kernel
theorem dX6_init_63 : decode cX6_init 63 = .ok (.newarray .int, 2) := by decide +kernel
theorem dX6_init_65 : decode cX6_init 65 = .ok (.dup, 1) := by decide +kernel
theorem dX6_init_66 : decode cX6_init 66 = .ok (.iconst 0, 1) := by decide +kernel
theorem dX6_init_67 : decode cX6_init 67 = .ok (.iconst (-1), 1) := by decide +kernel
theorem dX6_init_68 : decode cX6_init 68 = .ok (.iastore, 1) := by decide +kernel
theorem dX6_init_69 : decode cX6_init 69 = .ok (.dup, 1) := by decide +kernel
theorem dX6_init_70 : decode cX6_init 70 = .ok (.iconst 1, 1) := by decide +kernel
theorem dX6_init_71 : decode cX6_init 71 = .ok (.iconst (-1), 1) := by decide +kernel
theorem dX6_init_72 : decode cX6_init 72 = .ok (.iastore, 1) := by decide +kernel
theorem dX6_init_73 : decode cX6_init 73 = .ok (.dup, 1) := by decide +kernel
theorem dX6_init_74 : decode cX6_init 74 = .ok (.iconst 2, 1) := by decide +kernel
theorem dX6_init_75 : decode cX6_init 75 = .ok (.iconst (-1), 1) := by decide +kernel
theorem dX6_init_76 : decode cX6_init 76 = .ok (.iastore, 1) := by decide +kernel
theorem dX6_init_77 : decode cX6_init 77 = .ok (.dup, 1) := by decide +kernel
theorem dX6_init_78 : decode cX6_init 78 = .ok (.iconst 3, 1) := by decide +kernel
theorem dX6_init_79 : decode cX6_init 79 = .ok (.iconst (-1), 1) := by decide +kernel
theorem dX6_init_80 : decode cX6_init 80 = .ok (.iastore, 1) := by decide +kernel
theorem dX6_init_81 : decode cX6_init 81 = .ok (.putfield 31, 3) := by decide +kernel
theorem dX6_init_84 : decode cX6_init 84 = .ok (.aload_n 0, 1) := by decide +kernel
theorem dX6_init_85 : decode cX6_init 85 = .ok (.iconst 4, 1) := by decide +kernel
theorem dX6_init_86 : decode cX6_init 86 = .ok (.newarray .int, 2) := by decide +kernel
theorem dX6_init_88 : decode cX6_init 88 = .ok (.putfield 34, 3) := by decide +kernel
theorem dX6_init_91 : decode cX6_init 91 = .ok (.aload_n 0, 1) := by decide +kernel
theorem dX6_init_92 : decode cX6_init 92 = .ok (.sipush 160, 3) := by decide +kernel
theorem dX6_init_95 : decode cX6_init 95 = .ok (.newarray .int, 2) := by decide +kernel
theorem dX6_init_97 : decode cX6_init 97 = .ok (.putfield 37, 3) := by decide +kernel
theorem dX6_init_100 : decode cX6_init 100 = .ok (.aload_n 0, 1) := by decide +kernel
theorem dX6_init_101 : decode cX6_init 101 = .ok (.iconst 4, 1) := by decide +kernel
theorem dX6_init_102 : decode cX6_init 102 = .ok (.newarray .int, 2) := by decide +kernel
theorem dX6_init_104 : decode cX6_init 104 = .ok (.putfield 40, 3) := by decide +kernel
theorem dX6_init_107 : decode cX6_init 107 = .ok (.aload_n 0, 1) := by decide +kernel
theorem dX6_init_108 : decode cX6_init 108 = .ok (.iconst 4, 1) := by decide +kernel
theorem dX6_init_109 : decode cX6_init 109 = .ok (.newarray .int, 2) := by decide +kernel
theorem dX6_init_111 : decode cX6_init 111 = .ok (.putfield 43, 3) := by decide +kernel
theorem dX6_init_114 : decode cX6_init 114 = .ok (.aload_n 0, 1) := by decide +kernel
theorem dX6_init_115 : decode cX6_init 115 = .ok (.iconst 4, 1) := by decide +kernel
theorem dX6_init_116 : decode cX6_init 116 = .ok (.newarray .int, 2) := by decide +kernel
theorem dX6_init_118 : decode cX6_init 118 = .ok (.putfield 46, 3) := by decide +kernel
theorem dX6_init_121 : decode cX6_init 121 = .ok (.aload_n 0, 1) := by decide +kernel
theorem dX6_init_122 : decode cX6_init 122 = .ok (.bipush 30, 2) := by decide +kernel
theorem dX6_init_124 : decode cX6_init 124 = .ok (.newarray .int, 2) := by decide +kernel
theorem dX6_init_126 : decode cX6_init 126 = .ok (.putfield 49, 3) := by decide +kernel
theorem dX6_init_129 : decode cX6_init 129 = .ok (.aload_n 0, 1) := by decide +kernel
theorem dX6_init_130 : decode cX6_init 130 = .ok (.invokevirtual 52, 3) := by decide +kernel
theorem dX6_init_133 : decode cX6_init 133 = .ok (.aload_n 0, 1) := by decide +kernel
theorem dX6_init_134 : decode cX6_init 134 = .ok (.getfield 7, 3) := by decide +kernel
theorem dX6_init_137 : decode cX6_init 137 = .ok (.iconst 2, 1) := by decide +kernel
theorem dX6_init_138 : decode cX6_init 138 = .ok (.iconst 1, 1) := by decide +kernel
theorem dX6_init_139 : decode cX6_init 139 = .ok (.iastore, 1) := by decide +kernel
theorem dX6_init_140 : decode cX6_init 140 = .ok (.return_, 1) := by decide +kernel
theorem dX6_begins_0 : decode cX6_begins 0 = .ok (.aload_n 0, 1) := by decide +kernel
theorem dX6_begins_1 : decode cX6_begins 1 = .ok (.getfield 7, 3) := by decide +kernel
theorem dX6_begins_4 : decode cX6_begins 4 = .ok (.iconst 2, 1) := by decide +kernel
theorem dX6_begins_5 : decode cX6_begins 5 = .ok (.iaload, 1) := by decide +kernel
theorem dX6_begins_6 : decode cX6_begins 6 = .ok (.istore_n 1, 1) := by decide +kernel
theorem dX6_begins_7 : decode cX6_begins 7 = .ok (.iconst 0, 1) := by decide +kernel
theorem dX6_begins_8 : decode cX6_begins 8 = .ok (.istore_n 2, 1) := by decide +kernel
theorem dX6_begins_9 : decode cX6_begins 9 = .ok (.iload_n 2, 1) := by decide +kernel
theorem dX6_begins_10 : decode cX6_begins 10 = .ok (.bipush 50, 2) := by decide +kernel
theorem dX6_begins_12 : decode cX6_begins 12 = .ok (.if_icmp .ge 16, 3) := by decide +kernel
theorem dX6_begins_15 : decode cX6_begins 15 = .ok (.aload_n 0, 1) := by decide +kernel
theorem dX6_begins_16 : decode cX6_begins 16 = .ok (.getfield 7, 3) := by decide +kernel
theorem dX6_begins_19 : decode cX6_begins 19 = .ok (.iload_n 2, 1) := by decide +kernel
theorem dX6_begins_20 : decode cX6_begins 20 = .ok (.iconst 0, 1) := by decide +kernel
theorem dX6_begins_21 : decode cX6_begins 21 = .ok (.iastore, 1) := by decide +kernel
theorem dX6_begins_22 : decode cX6_begins 22 = .ok (.iinc 2 1, 3) := by decide +kernel
theorem dX6_begins_25 : decode cX6_begins 25 = .ok (.goto (-16), 3) := by decide +kernel
theorem dX6_begins_28 : decode cX6_begins 28 = .ok (.aload_n 0, 1) := by decide +kernel
theorem dX6_begins_29 : decode cX6_begins 29 = .ok (.getfield 7, 3) := by decide +kernel
theorem dX6_begins_32 : decode cX6_begins 32 = .ok (.iconst 2, 1) := by decide +kernel
theorem dX6_begins_33 : decode cX6_begins 33 = .ok (.iload_n 1, 1) := by decide +kernel
theorem dX6_begins_34 : decode cX6_begins 34 = .ok (.iastore, 1) := by decide +kernel
theorem dX6_begins_35 : decode cX6_begins 35 = .ok (.aload_n 0, 1) := by decide +kernel
theorem dX6_begins_36 : decode cX6_begins 36 = .ok (.getfield 7, 3) := by decide +kernel
theorem dX6_begins_39 : decode cX6_begins 39 = .ok (.bipush 6, 2) := by decide +kernel
theorem dX6_begins_41 : decode cX6_begins 41 = .ok (.bipush 12, 2) := by decide +kernel
theorem dX6_begins_43 : decode cX6_begins 43 = .ok (.iastore, 1) := by decide +kernel
theorem dX6_begins_44 : decode cX6_begins 44 = .ok (.aload_n 0, 1) := by decide +kernel
theorem dX6_begins_45 : decode cX6_begins 45 = .ok (.getfield 7, 3) := by decide +kernel
theorem dX6_begins_48 : decode cX6_begins 48 = .ok (.bipush 7, 2) := by decide +kernel
theorem dX6_begins_50 : decode cX6_begins 50 = .ok (.iconst 1, 1) := by decide +kernel
theorem dX6_begins_51 : decode cX6_begins 51 = .ok (.iastore, 1) := by decide +kernel
theorem dX6_begins_52 : decode cX6_begins 52 = .ok (.aload_n 0, 1) := by decide +kernel
theorem dX6_begins_53 : decode cX6_begins 53 = .ok (.getfield 7, 3) := by decide +kernel
theorem dX6_begins_56 : decode cX6_begins 56 = .ok (.bipush 8, 2) := by decide +kernel
theorem dX6_begins_58 : decode cX6_begins 58 = .ok (.bipush 6, 2) := by decide +kernel
theorem dX6_begins_60 : decode cX6_begins 60 = .ok (.iastore, 1) := by decide +kernel
theorem dX6_begins_61 : decode cX6_begins 61 = .ok (.aload_n 0, 1) := by decide +kernel
theorem dX6_begins_62 : decode cX6_begins 62 = .ok (.getfield 7, 3) := by decide +kernel
theorem dX6_begins_65 : decode cX6_begins 65 = .ok (.bipush 9, 2) := by decide +kernel
theorem dX6_begins_67 : decode cX6_begins 67 = .ok (.bipush 20, 2) := by decide +kernel
theorem dX6_begins_69 : decode cX6_begins 69 = .ok (.iastore, 1) := by decide +kernel
theorem dX6_begins_70 : decode cX6_begins 70 = .ok (.return_, 1) := by decide +kernel
theorem dX6_isIn_0 : decode cX6_isIn 0 = .ok (.lload_n 0, 1) := by decide +kernel
theorem dX6_isIn_1 : decode cX6_isIn 1 = .ok (.lload_n 2, 1) := by decide +kernel
theorem dX6_isIn_2 : decode cX6_isIn 2 = .ok (.lcmp, 1) := by decide +kernel
theorem dX6_isIn_3 : decode cX6_isIn 3 = .ok (.ifCond .lt 14, 3) := by decide +kernel
theorem dX6_isIn_6 : decode cX6_isIn 6 = .ok (.lload_n 0, 1) := by decide +kernel
theorem dX6_isIn_7 : decode cX6_isIn 7 = .ok (.lload 4, 2) := by decide +kernel
theorem dX6_isIn_9 : decode cX6_isIn 9 = .ok (.lcmp, 1) := by decide +kernel
theorem dX6_isIn_10 : decode cX6_isIn 10 = .ok (.ifCond .gt 7, 3) := by decide +kernel
theorem dX6_isIn_13 : decode cX6_isIn 13 = .ok (.iconst 1, 1) := by decide +kernel
theorem dX6_isIn_14 : decode cX6_isIn 14 = .ok (.goto 4, 3) := by decide +kernel
theorem dX6_isIn_17 : decode cX6_isIn 17 = .ok (.iconst 0, 1) := by decide +kernel
theorem dX6_isIn_18 : decode cX6_isIn 18 = .ok (.ireturn, 1) := by decide +kernel
theorem dX6_isCorner_0 : decode cX6_isCorner 0 = .ok (.iload_n 0, 1) := by decide +kernel
theorem dX6_isCorner_1 : decode cX6_isCorner 1 = .ok (.ifCond .lt 13, 3) := by decide +kernel
theorem dX6_isCorner_4 : decode cX6_isCorner 4 = .ok (.iload_n 0, 1) := by decide +kernel
theorem dX6_isCorner_5 : decode cX6_isCorner 5 = .ok (.bipush 12, 2) := by decide +kernel
theorem dX6_isCorner_7 : decode cX6_isCorner 7 = .ok (.if_icmp .ge 7, 3) := by decide +kernel
theorem dX6_isCorner_10 : decode cX6_isCorner 10 = .ok (.iconst 1, 1) := by decide +kernel
theorem dX6_isCorner_11 : decode cX6_isCorner 11 = .ok (.goto 4, 3) := by decide +kernel
theorem dX6_isCorner_14 : decode cX6_isCorner 14 = .ok (.iconst 0, 1) := by decide +kernel
theorem dX6_isCorner_15 : decode cX6_isCorner 15 = .ok (.ireturn, 1) := by decide +kernel
theorem dX6_isOne_0 : decode cX6_isOne 0 = .ok (.iload_n 1, 1) := by decide +kernel
theorem dX6_isOne_1 : decode cX6_isOne 1 = .ok (.ifCond .lt 17, 3) := by decide +kernel
theorem dX6_isOne_4 : decode cX6_isOne 4 = .ok (.iload_n 1, 1) := by decide +kernel
theorem dX6_isOne_5 : decode cX6_isOne 5 = .ok (.aload_n 0, 1) := by decide +kernel
theorem dX6_isOne_6 : decode cX6_isOne 6 = .ok (.getfield 7, 3) := by decide +kernel
theorem dX6_isOne_9 : decode cX6_isOne 9 = .ok (.iconst 0, 1) := by decide +kernel
theorem dX6_isOne_10 : decode cX6_isOne 10 = .ok (.iaload, 1) := by decide +kernel
theorem dX6_isOne_11 : decode cX6_isOne 11 = .ok (.if_icmp .ge 7, 3) := by decide +kernel
theorem dX6_isOne_14 : decode cX6_isOne 14 = .ok (.iconst 1, 1) := by decide +kernel
theorem dX6_isOne_15 : decode cX6_isOne 15 = .ok (.goto 4, 3) := by decide +kernel
theorem dX6_isOne_18 : decode cX6_isOne 18 = .ok (.iconst 0, 1) := by decide +kernel
theorem dX6_isOne_19 : decode cX6_isOne 19 = .ok (.ireturn, 1) := by decide +kernel
theorem dX6_its_0 : decode cX6_its 0 = .ok (.aload_n 0, 1) := by decide +kernel
theorem dX6_its_1 : decode cX6_its 1 = .ok (.getfield 7, 3) := by decide +kernel
theorem dX6_its_4 : decode cX6_its 4 = .ok (.bipush 10, 2) := by decide +kernel
theorem dX6_its_6 : decode cX6_its 6 = .ok (.iconst 5, 1) := by decide +kernel
theorem dX6_its_7 : decode cX6_its 7 = .ok (.iload_n 1, 1) := by decide +kernel
theorem dX6_its_8 : decode cX6_its 8 = .ok (.imul, 1) := by decide +kernel
theorem dX6_its_9 : decode cX6_its 9 = .ok (.iadd, 1) := by decide +kernel
theorem dX6_its_10 : decode cX6_its 10 = .ok (.iload_n 2, 1) := by decide +kernel
theorem dX6_its_11 : decode cX6_its 11 = .ok (.iadd, 1) := by decide +kernel
theorem dX6_its_12 : decode cX6_its 12 = .ok (.iaload, 1) := by decide +kernel
theorem dX6_its_13 : decode cX6_its 13 = .ok (.ireturn, 1) := by decide +kernel
theorem dX6_becomes_0 : decode cX6_becomes 0 = .ok (.aload_n 0, 1) := by decide +kernel
theorem dX6_becomes_1 : decode cX6_becomes 1 = .ok (.getfield 7, 3) := by decide +kernel
theorem dX6_becomes_4 : decode cX6_becomes 4 = .ok (.iload_n 1, 1) := by decide +kernel
theorem dX6_becomes_5 : decode cX6_becomes 5 = .ok (.iaload, 1) := by decide +kernel
theorem dX6_becomes_6 : decode cX6_becomes 6 = .ok (.istore_n 3, 1) := by decide +kernel
theorem dX6_becomes_7 : decode cX6_becomes 7 = .ok (.aload_n 0, 1) := by decide +kernel
theorem dX6_becomes_8 : decode cX6_becomes 8 = .ok (.getfield 7, 3) := by decide +kernel
theorem dX6_becomes_11 : decode cX6_becomes 11 = .ok (.iload_n 1, 1) := by decide +kernel
theorem dX6_becomes_12 : decode cX6_becomes 12 = .ok (.iload_n 2, 1) := by decide +kernel
theorem dX6_becomes_13 : decode cX6_becomes 13 = .ok (.iastore, 1) := by decide +kernel
theorem dX6_becomes_14 : decode cX6_becomes 14 = .ok (.iload_n 3, 1) := by decide +kernel
theorem dX6_becomes_15 : decode cX6_becomes 15 = .ok (.ireturn, 1) := by decide +kernel
theorem dX6_copyRow_0 : decode cX6_copyRow 0 = .ok (.iconst 0, 1) := by decide +kernel
theorem dX6_copyRow_1 : decode cX6_copyRow 1 = .ok (.istore_n 2, 1) := by decide +kernel
theorem dX6_copyRow_2 : decode cX6_copyRow 2 = .ok (.iload_n 2, 1) := by decide +kernel
theorem dX6_copyRow_3 : decode cX6_copyRow 3 = .ok (.bipush 50, 2) := by decide +kernel
theorem dX6_copyRow_5 : decode cX6_copyRow 5 = .ok (.if_icmp .ge 15, 3) := by decide +kernel
theorem dX6_copyRow_8 : decode cX6_copyRow 8 = .ok (.aload_n 1, 1) := by decide +kernel
theorem dX6_copyRow_9 : decode cX6_copyRow 9 = .ok (.iload_n 2, 1) := by decide +kernel
theorem dX6_copyRow_10 : decode cX6_copyRow 10 = .ok (.aload_n 0, 1) := by decide +kernel
theorem dX6_copyRow_11 : decode cX6_copyRow 11 = .ok (.iload_n 2, 1) := by decide +kernel
theorem dX6_copyRow_12 : decode cX6_copyRow 12 = .ok (.iaload, 1) := by decide +kernel
theorem dX6_copyRow_13 : decode cX6_copyRow 13 = .ok (.iastore, 1) := by decide +kernel
theorem dX6_copyRow_14 : decode cX6_copyRow 14 = .ok (.iinc 2 1, 3) := by decide +kernel
theorem dX6_copyRow_17 : decode cX6_copyRow 17 = .ok (.goto (-15), 3) := by decide +kernel
theorem dX6_copyRow_20 : decode cX6_copyRow 20 = .ok (.return_, 1) := by decide +kernel
theorem dX6_least_0 : decode cX6_least 0 = .ok (.iload_n 0, 1) := by decide +kernel
theorem dX6_least_1 : decode cX6_least 1 = .ok (.iload_n 1, 1) := by decide +kernel
theorem dX6_least_2 : decode cX6_least 2 = .ok (.if_icmp .ge 7, 3) := by decide +kernel
theorem dX6_least_5 : decode cX6_least 5 = .ok (.iload_n 0, 1) := by decide +kernel
theorem dX6_least_6 : decode cX6_least 6 = .ok (.goto 4, 3) := by decide +kernel
theorem dX6_least_9 : decode cX6_least 9 = .ok (.iload_n 1, 1) := by decide +kernel
theorem dX6_least_10 : decode cX6_least 10 = .ok (.ireturn, 1) := by decide +kernel
theorem dX6_greatest_0 : decode cX6_greatest 0 = .ok (.iload_n 0, 1) := by decide +kernel
theorem dX6_greatest_1 : decode cX6_greatest 1 = .ok (.iload_n 1, 1) := by decide +kernel
theorem dX6_greatest_2 : decode cX6_greatest 2 = .ok (.if_icmp .le 7, 3) := by decide +kernel
theorem dX6_greatest_5 : decode cX6_greatest 5 = .ok (.iload_n 0, 1) := by decide +kernel
theorem dX6_greatest_6 : decode cX6_greatest 6 = .ok (.goto 4, 3) := by decide +kernel
theorem dX6_greatest_9 : decode cX6_greatest 9 = .ok (.iload_n 1, 1) := by decide +kernel
theorem dX6_greatest_10 : decode cX6_greatest 10 = .ok (.ireturn, 1) := by decide +kernel
theorem dX6_within_0 : decode cX6_within 0 = .ok (.iload_n 0, 1) := by decide +kernel
theorem dX6_within_1 : decode cX6_within 1 = .ok (.ifCond .ge 7, 3) := by decide +kernel
theorem dX6_within_4 : decode cX6_within 4 = .ok (.iconst 0, 1) := by decide +kernel
theorem dX6_within_5 : decode cX6_within 5 = .ok (.goto 15, 3) := by decide +kernel
theorem dX6_within_8 : decode cX6_within 8 = .ok (.iload_n 0, 1) := by decide +kernel
theorem dX6_within_9 : decode cX6_within 9 = .ok (.bipush 8, 2) := by decide +kernel
theorem dX6_within_11 : decode cX6_within 11 = .ok (.if_icmp .le 8, 3) := by decide +kernel
theorem dX6_within_14 : decode cX6_within 14 = .ok (.bipush 8, 2) := by decide +kernel
theorem dX6_within_16 : decode cX6_within 16 = .ok (.goto 4, 3) := by decide +kernel
theorem dX6_within_19 : decode cX6_within 19 = .ok (.iload_n 0, 1) := by decide +kernel
theorem dX6_within_20 : decode cX6_within 20 = .ok (.ireturn, 1) := by decide +kernel
theorem dX6_size_0 : decode cX6_size 0 = .ok (.iconst 0, 1) := by decide +kernel
theorem dX6_size_1 : decode cX6_size 1 = .ok (.istore_n 1, 1) := by decide +kernel
theorem dX6_size_2 : decode cX6_size 2 = .ok (.iload_n 0, 1) := by decide +kernel
theorem dX6_size_3 : decode cX6_size 3 = .ok (.istore_n 2, 1) := by decide +kernel
theorem dX6_size_4 : decode cX6_size 4 = .ok (.iload_n 2, 1) := by decide +kernel
theorem dX6_size_5 : decode cX6_size 5 = .ok (.ifCond .eq 15, 3) := by decide +kernel
theorem dX6_size_8 : decode cX6_size 8 = .ok (.iinc 1 1, 3) := by decide +kernel
theorem dX6_size_11 : decode cX6_size 11 = .ok (.iload_n 2, 1) := by decide +kernel
theorem dX6_size_12 : decode cX6_size 12 = .ok (.iload_n 2, 1) := by decide +kernel
theorem dX6_size_13 : decode cX6_size 13 = .ok (.iconst 1, 1) := by decide +kernel
theorem dX6_size_14 : decode cX6_size 14 = .ok (.isub, 1) := by decide +kernel
theorem dX6_size_15 : decode cX6_size 15 = .ok (.iand, 1) := by decide +kernel
theorem dX6_size_16 : decode cX6_size 16 = .ok (.istore_n 2, 1) := by decide +kernel
theorem dX6_size_17 : decode cX6_size 17 = .ok (.goto (-13), 3) := by decide +kernel
theorem dX6_size_20 : decode cX6_size 20 = .ok (.iload_n 1, 1) := by decide +kernel
theorem dX6_size_21 : decode cX6_size 21 = .ok (.ireturn, 1) := by decide +kernel
theorem dX6_isUnder_0 : decode cX6_isUnder 0 = .ok (.iload_n 1, 1) := by decide +kernel
theorem dX6_isUnder_1 : decode cX6_isUnder 1 = .ok (.ifCond .eq 28, 3) := by decide +kernel
theorem dX6_isUnder_4 : decode cX6_isUnder 4 = .ok (.iload_n 0, 1) := by decide +kernel
theorem dX6_isUnder_5 : decode cX6_isUnder 5 = .ok (.iload_n 1, 1) := by decide +kernel
theorem dX6_isUnder_6 : decode cX6_isUnder 6 = .ok (.if_icmp .eq 23, 3) := by decide +kernel
theorem dX6_isUnder_9 : decode cX6_isUnder 9 = .ok (.iload_n 1, 1) := by decide +kernel
theorem dX6_isUnder_10 : decode cX6_isUnder 10 = .ok (.iconst 1, 1) := by decide +kernel
theorem dX6_isUnder_11 : decode cX6_isUnder 11 = .ok (.if_icmp .ne 8, 3) := by decide +kernel
theorem dX6_isUnder_14 : decode cX6_isUnder 14 = .ok (.iload_n 0, 1) := by decide +kernel
theorem dX6_isUnder_15 : decode cX6_isUnder 15 = .ok (.iconst 3, 1) := by decide +kernel
theorem dX6_isUnder_16 : decode cX6_isUnder 16 = .ok (.if_icmp .eq 13, 3) := by decide +kernel
theorem dX6_isUnder_19 : decode cX6_isUnder 19 = .ok (.iload_n 1, 1) := by decide +kernel
theorem dX6_isUnder_20 : decode cX6_isUnder 20 = .ok (.iconst 2, 1) := by decide +kernel
theorem dX6_isUnder_21 : decode cX6_isUnder 21 = .ok (.if_icmp .ne 12, 3) := by decide +kernel
theorem dX6_isUnder_24 : decode cX6_isUnder 24 = .ok (.iload_n 0, 1) := by decide +kernel
theorem dX6_isUnder_25 : decode cX6_isUnder 25 = .ok (.iconst 4, 1) := by decide +kernel
theorem dX6_isUnder_26 : decode cX6_isUnder 26 = .ok (.if_icmp .ne 7, 3) := by decide +kernel
theorem dX6_isUnder_29 : decode cX6_isUnder 29 = .ok (.iconst 1, 1) := by decide +kernel
theorem dX6_isUnder_30 : decode cX6_isUnder 30 = .ok (.goto 4, 3) := by decide +kernel
theorem dX6_isUnder_33 : decode cX6_isUnder 33 = .ok (.iconst 0, 1) := by decide +kernel
theorem dX6_isUnder_34 : decode cX6_isUnder 34 = .ok (.ireturn, 1) := by decide +kernel
set_option maxRecDepth 20000 in
theorem ggX6_feed_X6_isIn : GoodIn wsX6_feed wsX6_isIn := goodIn_r _ [8] (by decide +kernel) (by decide +kernel)
set_option maxRecDepth 20000 in
theorem gX6_feed_X6_isIn : GoodIn wsX6_feed (va_wsS RX6 57 yX6_isIn wsX6_isIn) := goodIn_app (goodIn_of _ (by decide +kernel)) ggX6_feed_X6_isIn
theorem dX6_feed_0 : decode cX6_feed 0 = .ok (.iload_n 3, 1) := by decide +kernel
theorem dX6_feed_1 : decode cX6_feed 1 = .ok (.i2l, 1) := by decide +kernel
theorem dX6_feed_2 : decode cX6_feed 2 = .ok (.lconst 1, 1) := by decide +kernel
theorem dX6_feed_3 : decode cX6_feed 3 = .ok (.ldc2_w 55, 3) := by decide +kernel
theorem dX6_feed_6 : decode cX6_feed 6 = .ok (.invokestatic 57, 3) := by decide +kernel
theorem dX6_feed_9 : decode cX6_feed 9 = .ok (.ifCond .ne 5, 3) := by decide +kernel
theorem dX6_feed_12 : decode cX6_feed 12 = .ok (.iconst (-1), 1) := by decide +kernel
theorem dX6_feed_13 : decode cX6_feed 13 = .ok (.ireturn, 1) := by decide +kernel
theorem dX6_feed_14 : decode cX6_feed 14 = .ok (.aload_n 0, 1) := by decide +kernel
theorem dX6_feed_15 : decode cX6_feed 15 = .ok (.getfield 61, 3) := by decide +kernel
theorem dX6_feed_18 : decode cX6_feed 18 = .ok (.iload_n 3, 1) := by decide +kernel
theorem dX6_feed_19 : decode cX6_feed 19 = .ok (.iadd, 1) := by decide +kernel
theorem dX6_feed_20 : decode cX6_feed 20 = .ok (.sipush 200, 3) := by decide +kernel
theorem dX6_feed_23 : decode cX6_feed 23 = .ok (.if_icmp .le 6, 3) := by decide +kernel
theorem dX6_feed_26 : decode cX6_feed 26 = .ok (.bipush (-2), 2) := by decide +kernel
theorem dX6_feed_28 : decode cX6_feed 28 = .ok (.ireturn, 1) := by decide +kernel
theorem dX6_feed_29 : decode cX6_feed 29 = .ok (.iconst 0, 1) := by decide +kernel
theorem dX6_feed_30 : decode cX6_feed 30 = .ok (.istore 4, 2) := by decide +kernel
theorem dX6_feed_32 : decode cX6_feed 32 = .ok (.iload 4, 2) := by decide +kernel
theorem dX6_feed_34 : decode cX6_feed 34 = .ok (.iload_n 3, 1) := by decide +kernel
theorem dX6_feed_35 : decode cX6_feed 35 = .ok (.if_icmp .ge 40, 3) := by decide +kernel
theorem dX6_feed_38 : decode cX6_feed 38 = .ok (.aload_n 0, 1) := by decide +kernel
theorem dX6_feed_39 : decode cX6_feed 39 = .ok (.getfield 22, 3) := by decide +kernel
theorem dX6_feed_42 : decode cX6_feed 42 = .ok (.aload_n 0, 1) := by decide +kernel
theorem dX6_feed_43 : decode cX6_feed 43 = .ok (.getfield 61, 3) := by decide +kernel
theorem dX6_feed_46 : decode cX6_feed 46 = .ok (.lload_n 1, 1) := by decide +kernel
theorem dX6_feed_47 : decode cX6_feed 47 = .ok (.bipush 8, 2) := by decide +kernel
theorem dX6_feed_49 : decode cX6_feed 49 = .ok (.iload 4, 2) := by decide +kernel
theorem dX6_feed_51 : decode cX6_feed 51 = .ok (.imul, 1) := by decide +kernel
theorem dX6_feed_52 : decode cX6_feed 52 = .ok (.lshr, 1) := by decide +kernel
theorem dX6_feed_53 : decode cX6_feed 53 = .ok (.ldc2_w 65, 3) := by decide +kernel
theorem dX6_feed_56 : decode cX6_feed 56 = .ok (.land, 1) := by decide +kernel
theorem dX6_feed_57 : decode cX6_feed 57 = .ok (.l2i, 1) := by decide +kernel
theorem dX6_feed_58 : decode cX6_feed 58 = .ok (.iastore, 1) := by decide +kernel
theorem dX6_feed_59 : decode cX6_feed 59 = .ok (.aload_n 0, 1) := by decide +kernel
theorem dX6_feed_60 : decode cX6_feed 60 = .ok (.dup, 1) := by decide +kernel
theorem dX6_feed_61 : decode cX6_feed 61 = .ok (.getfield 61, 3) := by decide +kernel
theorem dX6_feed_64 : decode cX6_feed 64 = .ok (.iconst 1, 1) := by decide +kernel
theorem dX6_feed_65 : decode cX6_feed 65 = .ok (.iadd, 1) := by decide +kernel
theorem dX6_feed_66 : decode cX6_feed 66 = .ok (.putfield 61, 3) := by decide +kernel
theorem dX6_feed_69 : decode cX6_feed 69 = .ok (.iinc 4 1, 3) := by decide +kernel
theorem dX6_feed_72 : decode cX6_feed 72 = .ok (.goto (-40), 3) := by decide +kernel
theorem dX6_feed_75 : decode cX6_feed 75 = .ok (.aload_n 0, 1) := by decide +kernel
theorem dX6_feed_76 : decode cX6_feed 76 = .ok (.getfield 61, 3) := by decide +kernel
theorem dX6_feed_79 : decode cX6_feed 79 = .ok (.ireturn, 1) := by decide +kernel
theorem dX6_isAlpha_0 : decode cX6_isAlpha 0 = .ok (.iload_n 0, 1) := by decide +kernel
theorem dX6_isAlpha_1 : decode cX6_isAlpha 1 = .ok (.bipush 97, 2) := by decide +kernel
theorem dX6_isAlpha_3 : decode cX6_isAlpha 3 = .ok (.if_icmp .lt 13, 3) := by decide +kernel
theorem dX6_isAlpha_6 : decode cX6_isAlpha 6 = .ok (.iload_n 0, 1) := by decide +kernel
theorem dX6_isAlpha_7 : decode cX6_isAlpha 7 = .ok (.bipush 122, 2) := by decide +kernel
theorem dX6_isAlpha_9 : decode cX6_isAlpha 9 = .ok (.if_icmp .gt 7, 3) := by decide +kernel
theorem dX6_isAlpha_12 : decode cX6_isAlpha 12 = .ok (.iconst 1, 1) := by decide +kernel
theorem dX6_isAlpha_13 : decode cX6_isAlpha 13 = .ok (.goto 4, 3) := by decide +kernel
theorem dX6_isAlpha_16 : decode cX6_isAlpha 16 = .ok (.iconst 0, 1) := by decide +kernel
theorem dX6_isAlpha_17 : decode cX6_isAlpha 17 = .ok (.ireturn, 1) := by decide +kernel
theorem dX6_isDigit_0 : decode cX6_isDigit 0 = .ok (.iload_n 0, 1) := by decide +kernel
theorem dX6_isDigit_1 : decode cX6_isDigit 1 = .ok (.bipush 48, 2) := by decide +kernel
theorem dX6_isDigit_3 : decode cX6_isDigit 3 = .ok (.if_icmp .lt 13, 3) := by decide +kernel
theorem dX6_isDigit_6 : decode cX6_isDigit 6 = .ok (.iload_n 0, 1) := by decide +kernel
theorem dX6_isDigit_7 : decode cX6_isDigit 7 = .ok (.bipush 57, 2) := by decide +kernel
theorem dX6_isDigit_9 : decode cX6_isDigit 9 = .ok (.if_icmp .gt 7, 3) := by decide +kernel
theorem dX6_isDigit_12 : decode cX6_isDigit 12 = .ok (.iconst 1, 1) := by decide +kernel
theorem dX6_isDigit_13 : decode cX6_isDigit 13 = .ok (.goto 4, 3) := by decide +kernel
theorem dX6_isDigit_16 : decode cX6_isDigit 16 = .ok (.iconst 0, 1) := by decide +kernel
theorem dX6_isDigit_17 : decode cX6_isDigit 17 = .ok (.ireturn, 1) := by decide +kernel
theorem dX6_byteAt_0 : decode cX6_byteAt 0 = .ok (.iload_n 1, 1) := by decide +kernel
theorem dX6_byteAt_1 : decode cX6_byteAt 1 = .ok (.aload_n 0, 1) := by decide +kernel
theorem dX6_byteAt_2 : decode cX6_byteAt 2 = .ok (.getfield 61, 3) := by decide +kernel
theorem dX6_byteAt_5 : decode cX6_byteAt 5 = .ok (.if_icmp .ge 12, 3) := by decide +kernel
theorem dX6_byteAt_8 : decode cX6_byteAt 8 = .ok (.aload_n 0, 1) := by decide +kernel
theorem dX6_byteAt_9 : decode cX6_byteAt 9 = .ok (.getfield 22, 3) := by decide +kernel
theorem dX6_byteAt_12 : decode cX6_byteAt 12 = .ok (.iload_n 1, 1) := by decide +kernel
theorem dX6_byteAt_13 : decode cX6_byteAt 13 = .ok (.iaload, 1) := by decide +kernel
theorem dX6_byteAt_14 : decode cX6_byteAt 14 = .ok (.goto 4, 3) := by decide +kernel
theorem dX6_byteAt_17 : decode cX6_byteAt 17 = .ok (.iconst (-1), 1) := by decide +kernel
theorem dX6_byteAt_18 : decode cX6_byteAt 18 = .ok (.ireturn, 1) := by decide +kernel
set_option maxRecDepth 20000 in
theorem ggX6_nextToken_X6_byteAt : GoodIn wsX6_nextToken wsX6_byteAt := goodIn_r _ [9, 10, 11, 18, 19, 20, 21, 22, 23, 24, 25, 26, 27, 28, 29, 30, 31, 32, 33, 34, 35, 36, 37, 38, 39, 40, 41, 42, 43, 44] (by decide +kernel) (by decide +kernel)
set_option maxRecDepth 20000 in
theorem gX6_nextToken_X6_byteAt : GoodIn wsX6_nextToken (wsV RX6 73 RX6 yX6_byteAt wsX6_byteAt) := goodIn_app (goodIn_of _ (by decide +kernel)) ggX6_nextToken_X6_byteAt
set_option maxRecDepth 20000 in
theorem ggX6_nextToken_X6_isAlpha : GoodIn wsX6_nextToken wsX6_isAlpha := goodIn_r _ [14] (by decide +kernel) (by decide +kernel)
set_option maxRecDepth 20000 in
theorem gX6_nextToken_X6_isAlpha : GoodIn wsX6_nextToken (va_wsS RX6 77 yX6_isAlpha wsX6_isAlpha) := goodIn_app (goodIn_of _ (by decide +kernel)) ggX6_nextToken_X6_isAlpha
set_option maxRecDepth 20000 in
theorem ggX6_nextToken_X6_isDigit : GoodIn wsX6_nextToken wsX6_isDigit := goodIn_r _ [17] (by decide +kernel) (by decide +kernel)
set_option maxRecDepth 20000 in
theorem gX6_nextToken_X6_isDigit : GoodIn wsX6_nextToken (va_wsS RX6 81 yX6_isDigit wsX6_isDigit) := goodIn_app (goodIn_of _ (by decide +kernel)) ggX6_nextToken_X6_isDigit
theorem dX6_nextToken_0 : decode cX6_nextToken 0 = .ok (.aload_n 0, 1) := by decide +kernel
theorem dX6_nextToken_1 : decode cX6_nextToken 1 = .ok (.aload_n 0, 1) := by decide +kernel
theorem dX6_nextToken_2 : decode cX6_nextToken 2 = .ok (.getfield 67, 3) := by decide +kernel
theorem dX6_nextToken_5 : decode cX6_nextToken 5 = .ok (.putfield 70, 3) := by decide +kernel
theorem dX6_nextToken_8 : decode cX6_nextToken 8 = .ok (.aload_n 0, 1) := by decide +kernel
theorem dX6_nextToken_9 : decode cX6_nextToken 9 = .ok (.aload_n 0, 1) := by decide +kernel
theorem dX6_nextToken_10 : decode cX6_nextToken 10 = .ok (.getfield 70, 3) := by decide +kernel
theorem dX6_nextToken_13 : decode cX6_nextToken 13 = .ok (.invokevirtual 73, 3) := by decide +kernel
theorem dX6_nextToken_16 : decode cX6_nextToken 16 = .ok (.bipush 32, 2) := by decide +kernel
theorem dX6_nextToken_18 : decode cX6_nextToken 18 = .ok (.if_icmp .ne 16, 3) := by decide +kernel
theorem dX6_nextToken_21 : decode cX6_nextToken 21 = .ok (.aload_n 0, 1) := by decide +kernel
theorem dX6_nextToken_22 : decode cX6_nextToken 22 = .ok (.dup, 1) := by decide +kernel
theorem dX6_nextToken_23 : decode cX6_nextToken 23 = .ok (.getfield 70, 3) := by decide +kernel
theorem dX6_nextToken_26 : decode cX6_nextToken 26 = .ok (.iconst 1, 1) := by decide +kernel
theorem dX6_nextToken_27 : decode cX6_nextToken 27 = .ok (.iadd, 1) := by decide +kernel
theorem dX6_nextToken_28 : decode cX6_nextToken 28 = .ok (.putfield 70, 3) := by decide +kernel
theorem dX6_nextToken_31 : decode cX6_nextToken 31 = .ok (.goto (-23), 3) := by decide +kernel
theorem dX6_nextToken_34 : decode cX6_nextToken 34 = .ok (.aload_n 0, 1) := by decide +kernel
theorem dX6_nextToken_35 : decode cX6_nextToken 35 = .ok (.aload_n 0, 1) := by decide +kernel
theorem dX6_nextToken_36 : decode cX6_nextToken 36 = .ok (.getfield 70, 3) := by decide +kernel
theorem dX6_nextToken_39 : decode cX6_nextToken 39 = .ok (.putfield 67, 3) := by decide +kernel
theorem dX6_nextToken_42 : decode cX6_nextToken 42 = .ok (.aload_n 0, 1) := by decide +kernel
theorem dX6_nextToken_43 : decode cX6_nextToken 43 = .ok (.aload_n 0, 1) := by decide +kernel
theorem dX6_nextToken_44 : decode cX6_nextToken 44 = .ok (.getfield 70, 3) := by decide +kernel
theorem dX6_nextToken_47 : decode cX6_nextToken 47 = .ok (.invokevirtual 73, 3) := by decide +kernel
theorem dX6_nextToken_50 : decode cX6_nextToken 50 = .ok (.istore_n 1, 1) := by decide +kernel
theorem dX6_nextToken_51 : decode cX6_nextToken 51 = .ok (.aload_n 0, 1) := by decide +kernel
theorem dX6_nextToken_52 : decode cX6_nextToken 52 = .ok (.iload_n 1, 1) := by decide +kernel
theorem dX6_nextToken_53 : decode cX6_nextToken 53 = .ok (.ifCond .ge 7, 3) := by decide +kernel
theorem dX6_nextToken_56 : decode cX6_nextToken 56 = .ok (.iconst 0, 1) := by decide +kernel
theorem dX6_nextToken_57 : decode cX6_nextToken 57 = .ok (.goto 26, 3) := by decide +kernel
theorem dX6_nextToken_60 : decode cX6_nextToken 60 = .ok (.iload_n 1, 1) := by decide +kernel
theorem dX6_nextToken_61 : decode cX6_nextToken 61 = .ok (.invokestatic 77, 3) := by decide +kernel
theorem dX6_nextToken_64 : decode cX6_nextToken 64 = .ok (.ifCond .eq 7, 3) := by decide +kernel
theorem dX6_nextToken_67 : decode cX6_nextToken 67 = .ok (.iconst 1, 1) := by decide +kernel
theorem dX6_nextToken_68 : decode cX6_nextToken 68 = .ok (.goto 15, 3) := by decide +kernel
theorem dX6_nextToken_71 : decode cX6_nextToken 71 = .ok (.iload_n 1, 1) := by decide +kernel
theorem dX6_nextToken_72 : decode cX6_nextToken 72 = .ok (.invokestatic 81, 3) := by decide +kernel
theorem dX6_nextToken_75 : decode cX6_nextToken 75 = .ok (.ifCond .eq 7, 3) := by decide +kernel
theorem dX6_nextToken_78 : decode cX6_nextToken 78 = .ok (.iconst 2, 1) := by decide +kernel
theorem dX6_nextToken_79 : decode cX6_nextToken 79 = .ok (.goto 4, 3) := by decide +kernel
theorem dX6_nextToken_82 : decode cX6_nextToken 82 = .ok (.iconst 3, 1) := by decide +kernel
theorem dX6_nextToken_83 : decode cX6_nextToken 83 = .ok (.putfield 84, 3) := by decide +kernel
theorem dX6_nextToken_86 : decode cX6_nextToken 86 = .ok (.aload_n 0, 1) := by decide +kernel
theorem dX6_nextToken_87 : decode cX6_nextToken 87 = .ok (.iconst 0, 1) := by decide +kernel
theorem dX6_nextToken_88 : decode cX6_nextToken 88 = .ok (.putfield 87, 3) := by decide +kernel
theorem dX6_nextToken_91 : decode cX6_nextToken 91 = .ok (.aload_n 0, 1) := by decide +kernel
theorem dX6_nextToken_92 : decode cX6_nextToken 92 = .ok (.getfield 84, 3) := by decide +kernel
theorem dX6_nextToken_95 : decode cX6_nextToken 95 = .ok (.iconst 1, 1) := by decide +kernel
theorem dX6_nextToken_96 : decode cX6_nextToken 96 = .ok (.if_icmp .ne 30, 3) := by decide +kernel
theorem dX6_nextToken_99 : decode cX6_nextToken 99 = .ok (.aload_n 0, 1) := by decide +kernel
theorem dX6_nextToken_100 : decode cX6_nextToken 100 = .ok (.aload_n 0, 1) := by decide +kernel
theorem dX6_nextToken_101 : decode cX6_nextToken 101 = .ok (.getfield 67, 3) := by decide +kernel
theorem dX6_nextToken_104 : decode cX6_nextToken 104 = .ok (.invokevirtual 73, 3) := by decide +kernel
theorem dX6_nextToken_107 : decode cX6_nextToken 107 = .ok (.invokestatic 77, 3) := by decide +kernel
theorem dX6_nextToken_110 : decode cX6_nextToken 110 = .ok (.ifCond .eq 16, 3) := by decide +kernel
theorem dX6_nextToken_113 : decode cX6_nextToken 113 = .ok (.aload_n 0, 1) := by decide +kernel
theorem dX6_nextToken_114 : decode cX6_nextToken 114 = .ok (.dup, 1) := by decide +kernel
theorem dX6_nextToken_115 : decode cX6_nextToken 115 = .ok (.getfield 67, 3) := by decide +kernel
theorem dX6_nextToken_118 : decode cX6_nextToken 118 = .ok (.iconst 1, 1) := by decide +kernel
theorem dX6_nextToken_119 : decode cX6_nextToken 119 = .ok (.iadd, 1) := by decide +kernel
theorem dX6_nextToken_120 : decode cX6_nextToken 120 = .ok (.putfield 67, 3) := by decide +kernel
theorem dX6_nextToken_123 : decode cX6_nextToken 123 = .ok (.goto (-32), 3) := by decide +kernel
theorem dX6_nextToken_126 : decode cX6_nextToken 126 = .ok (.aload_n 0, 1) := by decide +kernel
theorem dX6_nextToken_127 : decode cX6_nextToken 127 = .ok (.getfield 84, 3) := by decide +kernel
theorem dX6_nextToken_130 : decode cX6_nextToken 130 = .ok (.iconst 2, 1) := by decide +kernel
theorem dX6_nextToken_131 : decode cX6_nextToken 131 = .ok (.if_icmp .ne 70, 3) := by decide +kernel
theorem dX6_nextToken_134 : decode cX6_nextToken 134 = .ok (.aload_n 0, 1) := by decide +kernel
theorem dX6_nextToken_135 : decode cX6_nextToken 135 = .ok (.aload_n 0, 1) := by decide +kernel
theorem dX6_nextToken_136 : decode cX6_nextToken 136 = .ok (.getfield 67, 3) := by decide +kernel
theorem dX6_nextToken_139 : decode cX6_nextToken 139 = .ok (.invokevirtual 73, 3) := by decide +kernel
theorem dX6_nextToken_142 : decode cX6_nextToken 142 = .ok (.invokestatic 81, 3) := by decide +kernel
theorem dX6_nextToken_145 : decode cX6_nextToken 145 = .ok (.ifCond .eq 56, 3) := by decide +kernel
theorem dX6_nextToken_148 : decode cX6_nextToken 148 = .ok (.aload_n 0, 1) := by decide +kernel
theorem dX6_nextToken_149 : decode cX6_nextToken 149 = .ok (.aload_n 0, 1) := by decide +kernel
theorem dX6_nextToken_150 : decode cX6_nextToken 150 = .ok (.getfield 87, 3) := by decide +kernel
theorem dX6_nextToken_153 : decode cX6_nextToken 153 = .ok (.sipush 999, 3) := by decide +kernel
theorem dX6_nextToken_156 : decode cX6_nextToken 156 = .ok (.if_icmp .le 10, 3) := by decide +kernel
theorem dX6_nextToken_159 : decode cX6_nextToken 159 = .ok (.aload_n 0, 1) := by decide +kernel
theorem dX6_nextToken_160 : decode cX6_nextToken 160 = .ok (.getfield 87, 3) := by decide +kernel
theorem dX6_nextToken_163 : decode cX6_nextToken 163 = .ok (.goto 22, 3) := by decide +kernel
theorem dX6_nextToken_166 : decode cX6_nextToken 166 = .ok (.bipush 10, 2) := by decide +kernel
theorem dX6_nextToken_168 : decode cX6_nextToken 168 = .ok (.aload_n 0, 1) := by decide +kernel
theorem dX6_nextToken_169 : decode cX6_nextToken 169 = .ok (.getfield 87, 3) := by decide +kernel
theorem dX6_nextToken_172 : decode cX6_nextToken 172 = .ok (.imul, 1) := by decide +kernel
theorem dX6_nextToken_173 : decode cX6_nextToken 173 = .ok (.aload_n 0, 1) := by decide +kernel
theorem dX6_nextToken_174 : decode cX6_nextToken 174 = .ok (.aload_n 0, 1) := by decide +kernel
theorem dX6_nextToken_175 : decode cX6_nextToken 175 = .ok (.getfield 67, 3) := by decide +kernel
theorem dX6_nextToken_178 : decode cX6_nextToken 178 = .ok (.invokevirtual 73, 3) := by decide +kernel
theorem dX6_nextToken_181 : decode cX6_nextToken 181 = .ok (.iadd, 1) := by decide +kernel
theorem dX6_nextToken_182 : decode cX6_nextToken 182 = .ok (.bipush 48, 2) := by decide +kernel
theorem dX6_nextToken_184 : decode cX6_nextToken 184 = .ok (.isub, 1) := by decide +kernel
theorem dX6_nextToken_185 : decode cX6_nextToken 185 = .ok (.putfield 87, 3) := by decide +kernel
theorem dX6_nextToken_188 : decode cX6_nextToken 188 = .ok (.aload_n 0, 1) := by decide +kernel
theorem dX6_nextToken_189 : decode cX6_nextToken 189 = .ok (.dup, 1) := by decide +kernel
theorem dX6_nextToken_190 : decode cX6_nextToken 190 = .ok (.getfield 67, 3) := by decide +kernel
theorem dX6_nextToken_193 : decode cX6_nextToken 193 = .ok (.iconst 1, 1) := by decide +kernel
theorem dX6_nextToken_194 : decode cX6_nextToken 194 = .ok (.iadd, 1) := by decide +kernel
theorem dX6_nextToken_195 : decode cX6_nextToken 195 = .ok (.putfield 67, 3) := by decide +kernel
theorem dX6_nextToken_198 : decode cX6_nextToken 198 = .ok (.goto (-72), 3) := by decide +kernel
theorem dX6_nextToken_201 : decode cX6_nextToken 201 = .ok (.aload_n 0, 1) := by decide +kernel
theorem dX6_nextToken_202 : decode cX6_nextToken 202 = .ok (.dup, 1) := by decide +kernel
theorem dX6_nextToken_203 : decode cX6_nextToken 203 = .ok (.getfield 67, 3) := by decide +kernel
theorem dX6_nextToken_206 : decode cX6_nextToken 206 = .ok (.aload_n 0, 1) := by decide +kernel
theorem dX6_nextToken_207 : decode cX6_nextToken 207 = .ok (.getfield 84, 3) := by decide +kernel
theorem dX6_nextToken_210 : decode cX6_nextToken 210 = .ok (.iconst 2, 1) := by decide +kernel
theorem dX6_nextToken_211 : decode cX6_nextToken 211 = .ok (.if_icmp .le 7, 3) := by decide +kernel
theorem dX6_nextToken_214 : decode cX6_nextToken 214 = .ok (.iconst 1, 1) := by decide +kernel
theorem dX6_nextToken_215 : decode cX6_nextToken 215 = .ok (.goto 4, 3) := by decide +kernel
theorem dX6_nextToken_218 : decode cX6_nextToken 218 = .ok (.iconst 0, 1) := by decide +kernel
theorem dX6_nextToken_219 : decode cX6_nextToken 219 = .ok (.iadd, 1) := by decide +kernel
theorem dX6_nextToken_220 : decode cX6_nextToken 220 = .ok (.putfield 67, 3) := by decide +kernel
theorem dX6_nextToken_223 : decode cX6_nextToken 223 = .ok (.return_, 1) := by decide +kernel
set_option maxRecDepth 20000 in
theorem ggX6_needs_X6_nextToken : GoodIn wsX6_needs wsX6_nextToken := goodIn_r _ [6, 7, 8, 9, 10, 11, 12, 13, 5, 14, 15, 16, 17, 18, 19, 20, 21, 22, 23, 24, 25, 26, 27, 28, 29, 30, 31, 32, 33, 34, 35, 36, 37, 38, 39, 40, 41, 42, 43, 44, 45, 46, 47, 48, 49] (by decide +kernel) (by decide +kernel)
set_option maxRecDepth 20000 in
theorem gX6_needs_X6_nextToken : GoodIn wsX6_needs (wsV RX6 94 RX6 yX6_nextToken wsX6_nextToken) := goodIn_app (goodIn_of _ (by decide +kernel)) ggX6_needs_X6_nextToken
theorem dX6_needs_0 : decode cX6_needs 0 = .ok (.aload_n 0, 1) := by decide +kernel
theorem dX6_needs_1 : decode cX6_needs 1 = .ok (.aload_n 0, 1) := by decide +kernel
theorem dX6_needs_2 : decode cX6_needs 2 = .ok (.getfield 90, 3) := by decide +kernel
theorem dX6_needs_5 : decode cX6_needs 5 = .ok (.ifCond .ne 7, 3) := by decide +kernel
theorem dX6_needs_8 : decode cX6_needs 8 = .ok (.iload_n 1, 1) := by decide +kernel
theorem dX6_needs_9 : decode cX6_needs 9 = .ok (.ifCond .ne 7, 3) := by decide +kernel
theorem dX6_needs_12 : decode cX6_needs 12 = .ok (.iconst 1, 1) := by decide +kernel
theorem dX6_needs_13 : decode cX6_needs 13 = .ok (.goto 4, 3) := by decide +kernel
theorem dX6_needs_16 : decode cX6_needs 16 = .ok (.iconst 0, 1) := by decide +kernel
theorem dX6_needs_17 : decode cX6_needs 17 = .ok (.putfield 90, 3) := by decide +kernel
theorem dX6_needs_20 : decode cX6_needs 20 = .ok (.aload_n 0, 1) := by decide +kernel
theorem dX6_needs_21 : decode cX6_needs 21 = .ok (.getfield 90, 3) := by decide +kernel
theorem dX6_needs_24 : decode cX6_needs 24 = .ok (.ifCond .ne 7, 3) := by decide +kernel
theorem dX6_needs_27 : decode cX6_needs 27 = .ok (.aload_n 0, 1) := by decide +kernel
theorem dX6_needs_28 : decode cX6_needs 28 = .ok (.invokevirtual 94, 3) := by decide +kernel
theorem dX6_needs_31 : decode cX6_needs 31 = .ok (.return_, 1) := by decide +kernel
set_option maxRecDepth 20000 in
theorem ggX6_isName_X6_byteAt : GoodIn wsX6_isName wsX6_byteAt := goodIn_r _ [8, 9, 10, 11, 12, 13, 14, 15, 16, 17, 18, 19, 20, 21, 22, 23, 24, 25, 26, 27, 28, 29, 30, 31, 32, 33, 34, 35, 36, 37] (by decide +kernel) (by decide +kernel)
set_option maxRecDepth 20000 in
theorem gX6_isName_X6_byteAt : GoodIn wsX6_isName (wsV RX6 73 RX6 yX6_byteAt wsX6_byteAt) := goodIn_app (goodIn_of _ (by decide +kernel)) ggX6_isName_X6_byteAt
theorem dX6_isName_0 : decode cX6_isName 0 = .ok (.aload_n 0, 1) := by decide +kernel
theorem dX6_isName_1 : decode cX6_isName 1 = .ok (.getfield 84, 3) := by decide +kernel
theorem dX6_isName_4 : decode cX6_isName 4 = .ok (.iconst 1, 1) := by decide +kernel
theorem dX6_isName_5 : decode cX6_isName 5 = .ok (.if_icmp .ne 76, 3) := by decide +kernel
theorem dX6_isName_8 : decode cX6_isName 8 = .ok (.aload_n 0, 1) := by decide +kernel
theorem dX6_isName_9 : decode cX6_isName 9 = .ok (.getfield 67, 3) := by decide +kernel
theorem dX6_isName_12 : decode cX6_isName 12 = .ok (.aload_n 0, 1) := by decide +kernel
theorem dX6_isName_13 : decode cX6_isName 13 = .ok (.getfield 70, 3) := by decide +kernel
theorem dX6_isName_16 : decode cX6_isName 16 = .ok (.isub, 1) := by decide +kernel
theorem dX6_isName_17 : decode cX6_isName 17 = .ok (.iload_n 1, 1) := by decide +kernel
theorem dX6_isName_18 : decode cX6_isName 18 = .ok (.if_icmp .ne 63, 3) := by decide +kernel
theorem dX6_isName_21 : decode cX6_isName 21 = .ok (.aload_n 0, 1) := by decide +kernel
theorem dX6_isName_22 : decode cX6_isName 22 = .ok (.aload_n 0, 1) := by decide +kernel
theorem dX6_isName_23 : decode cX6_isName 23 = .ok (.getfield 70, 3) := by decide +kernel
theorem dX6_isName_26 : decode cX6_isName 26 = .ok (.invokevirtual 73, 3) := by decide +kernel
theorem dX6_isName_29 : decode cX6_isName 29 = .ok (.iload_n 2, 1) := by decide +kernel
theorem dX6_isName_30 : decode cX6_isName 30 = .ok (.if_icmp .ne 51, 3) := by decide +kernel
theorem dX6_isName_33 : decode cX6_isName 33 = .ok (.aload_n 0, 1) := by decide +kernel
theorem dX6_isName_34 : decode cX6_isName 34 = .ok (.aload_n 0, 1) := by decide +kernel
theorem dX6_isName_35 : decode cX6_isName 35 = .ok (.getfield 70, 3) := by decide +kernel
theorem dX6_isName_38 : decode cX6_isName 38 = .ok (.iconst 1, 1) := by decide +kernel
theorem dX6_isName_39 : decode cX6_isName 39 = .ok (.iadd, 1) := by decide +kernel
theorem dX6_isName_40 : decode cX6_isName 40 = .ok (.invokevirtual 73, 3) := by decide +kernel
theorem dX6_isName_43 : decode cX6_isName 43 = .ok (.iload_n 3, 1) := by decide +kernel
theorem dX6_isName_44 : decode cX6_isName 44 = .ok (.if_icmp .ne 37, 3) := by decide +kernel
theorem dX6_isName_47 : decode cX6_isName 47 = .ok (.aload_n 0, 1) := by decide +kernel
theorem dX6_isName_48 : decode cX6_isName 48 = .ok (.aload_n 0, 1) := by decide +kernel
theorem dX6_isName_49 : decode cX6_isName 49 = .ok (.getfield 70, 3) := by decide +kernel
theorem dX6_isName_52 : decode cX6_isName 52 = .ok (.iconst 2, 1) := by decide +kernel
theorem dX6_isName_53 : decode cX6_isName 53 = .ok (.iadd, 1) := by decide +kernel
theorem dX6_isName_54 : decode cX6_isName 54 = .ok (.invokevirtual 73, 3) := by decide +kernel
theorem dX6_isName_57 : decode cX6_isName 57 = .ok (.iload 4, 2) := by decide +kernel
theorem dX6_isName_59 : decode cX6_isName 59 = .ok (.if_icmp .ne 22, 3) := by decide +kernel
theorem dX6_isName_62 : decode cX6_isName 62 = .ok (.aload_n 0, 1) := by decide +kernel
theorem dX6_isName_63 : decode cX6_isName 63 = .ok (.aload_n 0, 1) := by decide +kernel
theorem dX6_isName_64 : decode cX6_isName 64 = .ok (.getfield 67, 3) := by decide +kernel
theorem dX6_isName_67 : decode cX6_isName 67 = .ok (.iconst 1, 1) := by decide +kernel
theorem dX6_isName_68 : decode cX6_isName 68 = .ok (.isub, 1) := by decide +kernel
theorem dX6_isName_69 : decode cX6_isName 69 = .ok (.invokevirtual 73, 3) := by decide +kernel
theorem dX6_isName_72 : decode cX6_isName 72 = .ok (.iload 5, 2) := by decide +kernel
theorem dX6_isName_74 : decode cX6_isName 74 = .ok (.if_icmp .ne 7, 3) := by decide +kernel
theorem dX6_isName_77 : decode cX6_isName 77 = .ok (.iconst 1, 1) := by decide +kernel
theorem dX6_isName_78 : decode cX6_isName 78 = .ok (.goto 4, 3) := by decide +kernel
theorem dX6_isName_81 : decode cX6_isName 81 = .ok (.iconst 0, 1) := by decide +kernel
theorem dX6_isName_82 : decode cX6_isName 82 = .ok (.ireturn, 1) := by decide +kernel
set_option maxRecDepth 20000 in
theorem ggX6_isSame_X6_byteAt : GoodIn wsX6_isSame wsX6_byteAt := goodIn_r _ [6, 7, 8, 9, 10, 11, 12, 13, 14, 15, 16, 17, 18, 19, 20, 21, 22, 23, 24, 25, 26, 27, 28, 29, 30, 31, 32, 33, 34, 35] (by decide +kernel) (by decide +kernel)
set_option maxRecDepth 20000 in
theorem gX6_isSame_X6_byteAt : GoodIn wsX6_isSame (wsV RX6 73 RX6 yX6_byteAt wsX6_byteAt) := goodIn_app (goodIn_of _ (by decide +kernel)) ggX6_isSame_X6_byteAt
theorem dX6_isSame_0 : decode cX6_isSame 0 = .ok (.aload_n 0, 1) := by decide +kernel
theorem dX6_isSame_1 : decode cX6_isSame 1 = .ok (.aload_n 0, 1) := by decide +kernel
theorem dX6_isSame_2 : decode cX6_isSame 2 = .ok (.getfield 70, 3) := by decide +kernel
theorem dX6_isSame_5 : decode cX6_isSame 5 = .ok (.iload_n 1, 1) := by decide +kernel
theorem dX6_isSame_6 : decode cX6_isSame 6 = .ok (.iadd, 1) := by decide +kernel
theorem dX6_isSame_7 : decode cX6_isSame 7 = .ok (.invokevirtual 73, 3) := by decide +kernel
theorem dX6_isSame_10 : decode cX6_isSame 10 = .ok (.iload_n 2, 1) := by decide +kernel
theorem dX6_isSame_11 : decode cX6_isSame 11 = .ok (.if_icmp .ne 40, 3) := by decide +kernel
theorem dX6_isSame_14 : decode cX6_isSame 14 = .ok (.aload_n 0, 1) := by decide +kernel
theorem dX6_isSame_15 : decode cX6_isSame 15 = .ok (.aload_n 0, 1) := by decide +kernel
theorem dX6_isSame_16 : decode cX6_isSame 16 = .ok (.getfield 70, 3) := by decide +kernel
theorem dX6_isSame_19 : decode cX6_isSame 19 = .ok (.iload_n 1, 1) := by decide +kernel
theorem dX6_isSame_20 : decode cX6_isSame 20 = .ok (.iadd, 1) := by decide +kernel
theorem dX6_isSame_21 : decode cX6_isSame 21 = .ok (.iconst 1, 1) := by decide +kernel
theorem dX6_isSame_22 : decode cX6_isSame 22 = .ok (.iadd, 1) := by decide +kernel
theorem dX6_isSame_23 : decode cX6_isSame 23 = .ok (.invokevirtual 73, 3) := by decide +kernel
theorem dX6_isSame_26 : decode cX6_isSame 26 = .ok (.iload_n 3, 1) := by decide +kernel
theorem dX6_isSame_27 : decode cX6_isSame 27 = .ok (.if_icmp .ne 24, 3) := by decide +kernel
theorem dX6_isSame_30 : decode cX6_isSame 30 = .ok (.aload_n 0, 1) := by decide +kernel
theorem dX6_isSame_31 : decode cX6_isSame 31 = .ok (.aload_n 0, 1) := by decide +kernel
theorem dX6_isSame_32 : decode cX6_isSame 32 = .ok (.getfield 70, 3) := by decide +kernel
theorem dX6_isSame_35 : decode cX6_isSame 35 = .ok (.iload_n 1, 1) := by decide +kernel
theorem dX6_isSame_36 : decode cX6_isSame 36 = .ok (.iadd, 1) := by decide +kernel
theorem dX6_isSame_37 : decode cX6_isSame 37 = .ok (.iconst 2, 1) := by decide +kernel
theorem dX6_isSame_38 : decode cX6_isSame 38 = .ok (.iadd, 1) := by decide +kernel
theorem dX6_isSame_39 : decode cX6_isSame 39 = .ok (.invokevirtual 73, 3) := by decide +kernel
theorem dX6_isSame_42 : decode cX6_isSame 42 = .ok (.iload 4, 2) := by decide +kernel
theorem dX6_isSame_44 : decode cX6_isSame 44 = .ok (.if_icmp .ne 7, 3) := by decide +kernel
theorem dX6_isSame_47 : decode cX6_isSame 47 = .ok (.iconst 1, 1) := by decide +kernel
theorem dX6_isSame_48 : decode cX6_isSame 48 = .ok (.goto 4, 3) := by decide +kernel
theorem dX6_isSame_51 : decode cX6_isSame 51 = .ok (.iconst 0, 1) := by decide +kernel
theorem dX6_isSame_52 : decode cX6_isSame 52 = .ok (.ireturn, 1) := by decide +kernel
set_option maxRecDepth 20000 in
theorem ggX6_isFour_X6_isName : GoodIn wsX6_isFour wsX6_isName := goodIn_r _ [5, 6, 7, 8, 9, 10, 11, 4, 12, 13, 14, 15, 16, 17, 18, 19, 20, 21, 22, 23, 24, 25, 26, 27, 28, 29, 30, 31, 32, 33, 34, 35, 36, 37, 38, 39, 40, 41] (by decide +kernel) (by decide +kernel)
set_option maxRecDepth 20000 in
theorem gX6_isFour_X6_isName : GoodIn wsX6_isFour (wsV RX6 97 RX6 yX6_isName wsX6_isName) := goodIn_app (goodIn_of _ (by decide +kernel)) ggX6_isFour_X6_isName
theorem dX6_isFour_0 : decode cX6_isFour 0 = .ok (.aload_n 0, 1) := by decide +kernel
theorem dX6_isFour_1 : decode cX6_isFour 1 = .ok (.iconst 4, 1) := by decide +kernel
theorem dX6_isFour_2 : decode cX6_isFour 2 = .ok (.iload_n 1, 1) := by decide +kernel
theorem dX6_isFour_3 : decode cX6_isFour 3 = .ok (.iload_n 2, 1) := by decide +kernel
theorem dX6_isFour_4 : decode cX6_isFour 4 = .ok (.iload_n 3, 1) := by decide +kernel
theorem dX6_isFour_5 : decode cX6_isFour 5 = .ok (.iload 4, 2) := by decide +kernel
theorem dX6_isFour_7 : decode cX6_isFour 7 = .ok (.invokevirtual 97, 3) := by decide +kernel
theorem dX6_isFour_10 : decode cX6_isFour 10 = .ok (.ireturn, 1) := by decide +kernel
set_option maxRecDepth 20000 in
theorem ggX6_isFive_X6_isName : GoodIn wsX6_isFive wsX6_isName := goodIn_r _ [6, 7, 8, 1, 9, 10, 11, 5, 12, 13, 14, 15, 16, 17, 18, 19, 20, 21, 22, 23, 24, 25, 26, 27, 28, 29, 30, 31, 32, 33, 34, 35, 36, 37, 38, 39, 40, 41] (by decide +kernel) (by decide +kernel)
set_option maxRecDepth 20000 in
theorem gX6_isFive_X6_isName : GoodIn wsX6_isFive (wsV RX6 97 RX6 yX6_isName wsX6_isName) := goodIn_app (goodIn_of _ (by decide +kernel)) ggX6_isFive_X6_isName
set_option maxRecDepth 20000 in
theorem ggX6_isFive_X6_byteAt : GoodIn wsX6_isFive wsX6_byteAt := goodIn_r _ [12, 13, 14, 15, 16, 17, 18, 19, 20, 21, 22, 23, 24, 25, 26, 27, 28, 29, 30, 31, 32, 33, 34, 35, 36, 37, 38, 39, 40, 41] (by decide +kernel) (by decide +kernel)
set_option maxRecDepth 20000 in
theorem gX6_isFive_X6_byteAt : GoodIn wsX6_isFive (wsV RX6 73 RX6 yX6_byteAt wsX6_byteAt) := goodIn_app (goodIn_of _ (by decide +kernel)) ggX6_isFive_X6_byteAt
theorem dX6_isFive_0 : decode cX6_isFive 0 = .ok (.aload_n 0, 1) := by decide +kernel
theorem dX6_isFive_1 : decode cX6_isFive 1 = .ok (.iconst 5, 1) := by decide +kernel
theorem dX6_isFive_2 : decode cX6_isFive 2 = .ok (.iload_n 1, 1) := by decide +kernel
theorem dX6_isFive_3 : decode cX6_isFive 3 = .ok (.iload_n 2, 1) := by decide +kernel
theorem dX6_isFive_4 : decode cX6_isFive 4 = .ok (.iload_n 3, 1) := by decide +kernel
theorem dX6_isFive_5 : decode cX6_isFive 5 = .ok (.iload 5, 2) := by decide +kernel
theorem dX6_isFive_7 : decode cX6_isFive 7 = .ok (.invokevirtual 97, 3) := by decide +kernel
theorem dX6_isFive_10 : decode cX6_isFive 10 = .ok (.ifCond .eq 22, 3) := by decide +kernel
theorem dX6_isFive_13 : decode cX6_isFive 13 = .ok (.aload_n 0, 1) := by decide +kernel
theorem dX6_isFive_14 : decode cX6_isFive 14 = .ok (.aload_n 0, 1) := by decide +kernel
theorem dX6_isFive_15 : decode cX6_isFive 15 = .ok (.getfield 70, 3) := by decide +kernel
theorem dX6_isFive_18 : decode cX6_isFive 18 = .ok (.iconst 3, 1) := by decide +kernel
theorem dX6_isFive_19 : decode cX6_isFive 19 = .ok (.iadd, 1) := by decide +kernel
theorem dX6_isFive_20 : decode cX6_isFive 20 = .ok (.invokevirtual 73, 3) := by decide +kernel
theorem dX6_isFive_23 : decode cX6_isFive 23 = .ok (.iload 4, 2) := by decide +kernel
theorem dX6_isFive_25 : decode cX6_isFive 25 = .ok (.if_icmp .ne 7, 3) := by decide +kernel
theorem dX6_isFive_28 : decode cX6_isFive 28 = .ok (.iconst 1, 1) := by decide +kernel
theorem dX6_isFive_29 : decode cX6_isFive 29 = .ok (.goto 4, 3) := by decide +kernel
theorem dX6_isFive_32 : decode cX6_isFive 32 = .ok (.iconst 0, 1) := by decide +kernel
theorem dX6_isFive_33 : decode cX6_isFive 33 = .ok (.ireturn, 1) := by decide +kernel
set_option maxRecDepth 20000 in
theorem ggX6_kindHere_X6_isName : GoodIn wsX6_kindHere wsX6_isName := goodIn_r _ [5, 6, 7, 8, 9, 10, 11, 4, 12, 13, 14, 27, 28, 29, 30, 31, 32, 33, 34, 35, 36, 37, 38, 39, 40, 41, 42, 43, 44, 45, 46, 47, 48, 49, 50, 51, 52, 53] (by decide +kernel) (by decide +kernel)
set_option maxRecDepth 20000 in
theorem gX6_kindHere_X6_isName : GoodIn wsX6_kindHere (wsV RX6 97 RX6 yX6_isName wsX6_isName) := goodIn_app (goodIn_of _ (by decide +kernel)) ggX6_kindHere_X6_isName
set_option maxRecDepth 20000 in
theorem ggX6_kindHere_X6_isSame : GoodIn wsX6_kindHere wsX6_isSame := goodIn_r _ [18, 8, 9, 10, 11, 4, 12, 13, 14, 27, 28, 29, 30, 31, 32, 33, 34, 35, 36, 37, 38, 39, 40, 41, 42, 43, 44, 45, 46, 47, 48, 49, 50, 51, 52, 53] (by decide +kernel) (by decide +kernel)
set_option maxRecDepth 20000 in
theorem gX6_kindHere_X6_isSame : GoodIn wsX6_kindHere (wsV RX6 101 RX6 yX6_isSame wsX6_isSame) := goodIn_app (goodIn_of _ (by decide +kernel)) ggX6_kindHere_X6_isSame
set_option maxRecDepth 20000 in
theorem ggX6_kindHere_X6_isFour : GoodIn wsX6_kindHere wsX6_isFour := goodIn_r _ [22, 1, 2, 3, 4, 5, 6, 7, 8, 9, 10, 11, 12, 13, 14, 27, 28, 29, 30, 31, 32, 33, 34, 35, 36, 37, 38, 39, 40, 41, 42, 43, 44, 45, 46, 47, 48, 49, 50, 51, 52, 53] (by decide +kernel) (by decide +kernel)
set_option maxRecDepth 20000 in
theorem gX6_kindHere_X6_isFour : GoodIn wsX6_kindHere (wsV RX6 105 RX6 yX6_isFour wsX6_isFour) := goodIn_app (goodIn_of _ (by decide +kernel)) ggX6_kindHere_X6_isFour
set_option maxRecDepth 20000 in
theorem ggX6_kindHere_X6_isFive : GoodIn wsX6_kindHere wsX6_isFive := goodIn_r _ [26, 8, 1, 2, 3, 4, 5, 6, 7, 9, 10, 11, 12, 13, 14, 27, 28, 29, 30, 31, 32, 33, 34, 35, 36, 37, 38, 39, 40, 41, 42, 43, 44, 45, 46, 47, 48, 49, 50, 51, 52, 53] (by decide +kernel) (by decide +kernel)
set_option maxRecDepth 20000 in
theorem gX6_kindHere_X6_isFive : GoodIn wsX6_kindHere (wsV RX6 108 RX6 yX6_isFive wsX6_isFive) := goodIn_app (goodIn_of _ (by decide +kernel)) ggX6_kindHere_X6_isFive
theorem dX6_kindHere_0 : decode cX6_kindHere 0 = .ok (.aload_n 0, 1) := by decide +kernel
theorem dX6_kindHere_1 : decode cX6_kindHere 1 = .ok (.bipush 9, 2) := by decide +kernel
theorem dX6_kindHere_3 : decode cX6_kindHere 3 = .ok (.bipush 110, 2) := by decide +kernel
theorem dX6_kindHere_5 : decode cX6_kindHere 5 = .ok (.bipush 101, 2) := by decide +kernel
theorem dX6_kindHere_7 : decode cX6_kindHere 7 = .ok (.bipush 105, 2) := by decide +kernel
theorem dX6_kindHere_9 : decode cX6_kindHere 9 = .ok (.bipush 114, 2) := by decide +kernel
theorem dX6_kindHere_11 : decode cX6_kindHere 11 = .ok (.invokevirtual 97, 3) := by decide +kernel
theorem dX6_kindHere_14 : decode cX6_kindHere 14 = .ok (.ifCond .eq 34, 3) := by decide +kernel
theorem dX6_kindHere_17 : decode cX6_kindHere 17 = .ok (.aload_n 0, 1) := by decide +kernel
theorem dX6_kindHere_18 : decode cX6_kindHere 18 = .ok (.iconst 3, 1) := by decide +kernel
theorem dX6_kindHere_19 : decode cX6_kindHere 19 = .ok (.bipush 103, 2) := by decide +kernel
theorem dX6_kindHere_21 : decode cX6_kindHere 21 = .ok (.bipush 104, 2) := by decide +kernel
theorem dX6_kindHere_23 : decode cX6_kindHere 23 = .ok (.bipush 98, 2) := by decide +kernel
theorem dX6_kindHere_25 : decode cX6_kindHere 25 = .ok (.invokevirtual 101, 3) := by decide +kernel
theorem dX6_kindHere_28 : decode cX6_kindHere 28 = .ok (.ifCond .eq 20, 3) := by decide +kernel
theorem dX6_kindHere_31 : decode cX6_kindHere 31 = .ok (.aload_n 0, 1) := by decide +kernel
theorem dX6_kindHere_32 : decode cX6_kindHere 32 = .ok (.bipush 6, 2) := by decide +kernel
theorem dX6_kindHere_34 : decode cX6_kindHere 34 = .ok (.bipush 111, 2) := by decide +kernel
theorem dX6_kindHere_36 : decode cX6_kindHere 36 = .ok (.bipush 117, 2) := by decide +kernel
theorem dX6_kindHere_38 : decode cX6_kindHere 38 = .ok (.bipush 114, 2) := by decide +kernel
theorem dX6_kindHere_40 : decode cX6_kindHere 40 = .ok (.invokevirtual 101, 3) := by decide +kernel
theorem dX6_kindHere_43 : decode cX6_kindHere 43 = .ok (.ifCond .eq 5, 3) := by decide +kernel
theorem dX6_kindHere_46 : decode cX6_kindHere 46 = .ok (.iconst 0, 1) := by decide +kernel
theorem dX6_kindHere_47 : decode cX6_kindHere 47 = .ok (.ireturn, 1) := by decide +kernel
theorem dX6_kindHere_48 : decode cX6_kindHere 48 = .ok (.aload_n 0, 1) := by decide +kernel
theorem dX6_kindHere_49 : decode cX6_kindHere 49 = .ok (.bipush 99, 2) := by decide +kernel
theorem dX6_kindHere_51 : decode cX6_kindHere 51 = .ok (.bipush 111, 2) := by decide +kernel
theorem dX6_kindHere_53 : decode cX6_kindHere 53 = .ok (.bipush 111, 2) := by decide +kernel
theorem dX6_kindHere_55 : decode cX6_kindHere 55 = .ok (.bipush 107, 2) := by decide +kernel
theorem dX6_kindHere_57 : decode cX6_kindHere 57 = .ok (.invokevirtual 105, 3) := by decide +kernel
theorem dX6_kindHere_60 : decode cX6_kindHere 60 = .ok (.ifCond .eq 5, 3) := by decide +kernel
theorem dX6_kindHere_63 : decode cX6_kindHere 63 = .ok (.iconst 1, 1) := by decide +kernel
theorem dX6_kindHere_64 : decode cX6_kindHere 64 = .ok (.ireturn, 1) := by decide +kernel
theorem dX6_kindHere_65 : decode cX6_kindHere 65 = .ok (.aload_n 0, 1) := by decide +kernel
theorem dX6_kindHere_66 : decode cX6_kindHere 66 = .ok (.bipush 7, 2) := by decide +kernel
theorem dX6_kindHere_68 : decode cX6_kindHere 68 = .ok (.bipush 115, 2) := by decide +kernel
theorem dX6_kindHere_70 : decode cX6_kindHere 70 = .ok (.bipush 111, 2) := by decide +kernel
theorem dX6_kindHere_72 : decode cX6_kindHere 72 = .ok (.bipush 108, 2) := by decide +kernel
theorem dX6_kindHere_74 : decode cX6_kindHere 74 = .ok (.bipush 114, 2) := by decide +kernel
theorem dX6_kindHere_76 : decode cX6_kindHere 76 = .ok (.invokevirtual 97, 3) := by decide +kernel
theorem dX6_kindHere_79 : decode cX6_kindHere 79 = .ok (.ifCond .eq 19, 3) := by decide +kernel
theorem dX6_kindHere_82 : decode cX6_kindHere 82 = .ok (.aload_n 0, 1) := by decide +kernel
theorem dX6_kindHere_83 : decode cX6_kindHere 83 = .ok (.iconst 3, 1) := by decide +kernel
theorem dX6_kindHere_84 : decode cX6_kindHere 84 = .ok (.bipush 100, 2) := by decide +kernel
theorem dX6_kindHere_86 : decode cX6_kindHere 86 = .ok (.bipush 105, 2) := by decide +kernel
theorem dX6_kindHere_88 : decode cX6_kindHere 88 = .ok (.bipush 101, 2) := by decide +kernel
theorem dX6_kindHere_90 : decode cX6_kindHere 90 = .ok (.invokevirtual 101, 3) := by decide +kernel
theorem dX6_kindHere_93 : decode cX6_kindHere 93 = .ok (.ifCond .eq 5, 3) := by decide +kernel
theorem dX6_kindHere_96 : decode cX6_kindHere 96 = .ok (.iconst 2, 1) := by decide +kernel
theorem dX6_kindHere_97 : decode cX6_kindHere 97 = .ok (.ireturn, 1) := by decide +kernel
theorem dX6_kindHere_98 : decode cX6_kindHere 98 = .ok (.aload_n 0, 1) := by decide +kernel
theorem dX6_kindHere_99 : decode cX6_kindHere 99 = .ok (.bipush 98, 2) := by decide +kernel
theorem dX6_kindHere_101 : decode cX6_kindHere 101 = .ok (.bipush 97, 2) := by decide +kernel
theorem dX6_kindHere_103 : decode cX6_kindHere 103 = .ok (.bipush 107, 2) := by decide +kernel
theorem dX6_kindHere_105 : decode cX6_kindHere 105 = .ok (.bipush 101, 2) := by decide +kernel
theorem dX6_kindHere_107 : decode cX6_kindHere 107 = .ok (.bipush 114, 2) := by decide +kernel
theorem dX6_kindHere_109 : decode cX6_kindHere 109 = .ok (.invokevirtual 108, 3) := by decide +kernel
theorem dX6_kindHere_112 : decode cX6_kindHere 112 = .ok (.ifCond .eq 5, 3) := by decide +kernel
theorem dX6_kindHere_115 : decode cX6_kindHere 115 = .ok (.iconst 3, 1) := by decide +kernel
theorem dX6_kindHere_116 : decode cX6_kindHere 116 = .ok (.ireturn, 1) := by decide +kernel
theorem dX6_kindHere_117 : decode cX6_kindHere 117 = .ok (.aload_n 0, 1) := by decide +kernel
theorem dX6_kindHere_118 : decode cX6_kindHere 118 = .ok (.bipush 7, 2) := by decide +kernel
theorem dX6_kindHere_120 : decode cX6_kindHere 120 = .ok (.bipush 111, 2) := by decide +kernel
theorem dX6_kindHere_122 : decode cX6_kindHere 122 = .ok (.bipush 102, 2) := by decide +kernel
theorem dX6_kindHere_124 : decode cX6_kindHere 124 = .ok (.bipush 102, 2) := by decide +kernel
theorem dX6_kindHere_126 : decode cX6_kindHere 126 = .ok (.bipush 114, 2) := by decide +kernel
theorem dX6_kindHere_128 : decode cX6_kindHere 128 = .ok (.invokevirtual 97, 3) := by decide +kernel
theorem dX6_kindHere_131 : decode cX6_kindHere 131 = .ok (.ifCond .eq 19, 3) := by decide +kernel
theorem dX6_kindHere_134 : decode cX6_kindHere 134 = .ok (.aload_n 0, 1) := by decide +kernel
theorem dX6_kindHere_135 : decode cX6_kindHere 135 = .ok (.iconst 3, 1) := by decide +kernel
theorem dX6_kindHere_136 : decode cX6_kindHere 136 = .ok (.bipush 105, 2) := by decide +kernel
theorem dX6_kindHere_138 : decode cX6_kindHere 138 = .ok (.bipush 99, 2) := by decide +kernel
theorem dX6_kindHere_140 : decode cX6_kindHere 140 = .ok (.bipush 101, 2) := by decide +kernel
theorem dX6_kindHere_142 : decode cX6_kindHere 142 = .ok (.invokevirtual 101, 3) := by decide +kernel
theorem dX6_kindHere_145 : decode cX6_kindHere 145 = .ok (.ifCond .eq 5, 3) := by decide +kernel
theorem dX6_kindHere_148 : decode cX6_kindHere 148 = .ok (.iconst 4, 1) := by decide +kernel
theorem dX6_kindHere_149 : decode cX6_kindHere 149 = .ok (.ireturn, 1) := by decide +kernel
theorem dX6_kindHere_150 : decode cX6_kindHere 150 = .ok (.aload_n 0, 1) := by decide +kernel
theorem dX6_kindHere_151 : decode cX6_kindHere 151 = .ok (.bipush 6, 2) := by decide +kernel
theorem dX6_kindHere_153 : decode cX6_kindHere 153 = .ok (.bipush 109, 2) := by decide +kernel
theorem dX6_kindHere_155 : decode cX6_kindHere 155 = .ok (.bipush 111, 2) := by decide +kernel
theorem dX6_kindHere_157 : decode cX6_kindHere 157 = .ok (.bipush 116, 2) := by decide +kernel
theorem dX6_kindHere_159 : decode cX6_kindHere 159 = .ok (.bipush 114, 2) := by decide +kernel
theorem dX6_kindHere_161 : decode cX6_kindHere 161 = .ok (.invokevirtual 97, 3) := by decide +kernel
theorem dX6_kindHere_164 : decode cX6_kindHere 164 = .ok (.ifCond .eq 21, 3) := by decide +kernel
theorem dX6_kindHere_167 : decode cX6_kindHere 167 = .ok (.aload_n 0, 1) := by decide +kernel
theorem dX6_kindHere_168 : decode cX6_kindHere 168 = .ok (.iconst 2, 1) := by decide +kernel
theorem dX6_kindHere_169 : decode cX6_kindHere 169 = .ok (.bipush 116, 2) := by decide +kernel
theorem dX6_kindHere_171 : decode cX6_kindHere 171 = .ok (.bipush 104, 2) := by decide +kernel
theorem dX6_kindHere_173 : decode cX6_kindHere 173 = .ok (.bipush 101, 2) := by decide +kernel
theorem dX6_kindHere_175 : decode cX6_kindHere 175 = .ok (.invokevirtual 101, 3) := by decide +kernel
theorem dX6_kindHere_178 : decode cX6_kindHere 178 = .ok (.ifCond .eq 7, 3) := by decide +kernel
theorem dX6_kindHere_181 : decode cX6_kindHere 181 = .ok (.iconst 5, 1) := by decide +kernel
theorem dX6_kindHere_182 : decode cX6_kindHere 182 = .ok (.goto 4, 3) := by decide +kernel
theorem dX6_kindHere_185 : decode cX6_kindHere 185 = .ok (.iconst (-1), 1) := by decide +kernel
theorem dX6_kindHere_186 : decode cX6_kindHere 186 = .ok (.ireturn, 1) := by decide +kernel
set_option maxRecDepth 20000 in
theorem ggX6_numberTo_X6_needs : GoodIn wsX6_numberTo wsX6_needs := goodIn_r _ [11, 5, 12, 13, 14, 10, 15, 2, 3, 1, 4, 16, 17, 18, 19, 20, 21, 22, 23, 24, 25, 26, 27, 28, 29, 30, 31, 32, 33, 34, 35, 36, 37, 38, 39, 40, 41, 42, 43, 44, 45, 46, 47, 48, 49, 50, 51, 52, 53, 54] (by decide +kernel) (by decide +kernel)
set_option maxRecDepth 20000 in
theorem gX6_numberTo_X6_needs : GoodIn wsX6_numberTo (wsV RX6 111 RX6 yX6_needs wsX6_needs) := goodIn_app (goodIn_of _ (by decide +kernel)) ggX6_numberTo_X6_needs
theorem dX6_numberTo_0 : decode cX6_numberTo 0 = .ok (.aload_n 0, 1) := by decide +kernel
theorem dX6_numberTo_1 : decode cX6_numberTo 1 = .ok (.getfield 84, 3) := by decide +kernel
theorem dX6_numberTo_4 : decode cX6_numberTo 4 = .ok (.iconst 2, 1) := by decide +kernel
theorem dX6_numberTo_5 : decode cX6_numberTo 5 = .ok (.if_icmp .ne 36, 3) := by decide +kernel
theorem dX6_numberTo_8 : decode cX6_numberTo 8 = .ok (.aload_n 0, 1) := by decide +kernel
theorem dX6_numberTo_9 : decode cX6_numberTo 9 = .ok (.getfield 67, 3) := by decide +kernel
theorem dX6_numberTo_12 : decode cX6_numberTo 12 = .ok (.aload_n 0, 1) := by decide +kernel
theorem dX6_numberTo_13 : decode cX6_numberTo 13 = .ok (.getfield 70, 3) := by decide +kernel
theorem dX6_numberTo_16 : decode cX6_numberTo 16 = .ok (.isub, 1) := by decide +kernel
theorem dX6_numberTo_17 : decode cX6_numberTo 17 = .ok (.iconst 3, 1) := by decide +kernel
theorem dX6_numberTo_18 : decode cX6_numberTo 18 = .ok (.if_icmp .gt 23, 3) := by decide +kernel
theorem dX6_numberTo_21 : decode cX6_numberTo 21 = .ok (.aload_n 0, 1) := by decide +kernel
theorem dX6_numberTo_22 : decode cX6_numberTo 22 = .ok (.getfield 87, 3) := by decide +kernel
theorem dX6_numberTo_25 : decode cX6_numberTo 25 = .ok (.iload_n 2, 1) := by decide +kernel
theorem dX6_numberTo_26 : decode cX6_numberTo 26 = .ok (.if_icmp .lt 15, 3) := by decide +kernel
theorem dX6_numberTo_29 : decode cX6_numberTo 29 = .ok (.aload_n 0, 1) := by decide +kernel
theorem dX6_numberTo_30 : decode cX6_numberTo 30 = .ok (.getfield 87, 3) := by decide +kernel
theorem dX6_numberTo_33 : decode cX6_numberTo 33 = .ok (.iload_n 3, 1) := by decide +kernel
theorem dX6_numberTo_34 : decode cX6_numberTo 34 = .ok (.if_icmp .gt 7, 3) := by decide +kernel
theorem dX6_numberTo_37 : decode cX6_numberTo 37 = .ok (.iconst 1, 1) := by decide +kernel
theorem dX6_numberTo_38 : decode cX6_numberTo 38 = .ok (.goto 4, 3) := by decide +kernel
theorem dX6_numberTo_41 : decode cX6_numberTo 41 = .ok (.iconst 0, 1) := by decide +kernel
theorem dX6_numberTo_42 : decode cX6_numberTo 42 = .ok (.istore 4, 2) := by decide +kernel
theorem dX6_numberTo_44 : decode cX6_numberTo 44 = .ok (.iload 4, 2) := by decide +kernel
theorem dX6_numberTo_46 : decode cX6_numberTo 46 = .ok (.ifCond .eq 20, 3) := by decide +kernel
theorem dX6_numberTo_49 : decode cX6_numberTo 49 = .ok (.aload_n 0, 1) := by decide +kernel
theorem dX6_numberTo_50 : decode cX6_numberTo 50 = .ok (.getfield 90, 3) := by decide +kernel
theorem dX6_numberTo_53 : decode cX6_numberTo 53 = .ok (.ifCond .ne 13, 3) := by decide +kernel
theorem dX6_numberTo_56 : decode cX6_numberTo 56 = .ok (.aload_n 0, 1) := by decide +kernel
theorem dX6_numberTo_57 : decode cX6_numberTo 57 = .ok (.getfield 7, 3) := by decide +kernel
theorem dX6_numberTo_60 : decode cX6_numberTo 60 = .ok (.iload_n 1, 1) := by decide +kernel
theorem dX6_numberTo_61 : decode cX6_numberTo 61 = .ok (.aload_n 0, 1) := by decide +kernel
theorem dX6_numberTo_62 : decode cX6_numberTo 62 = .ok (.getfield 87, 3) := by decide +kernel
theorem dX6_numberTo_65 : decode cX6_numberTo 65 = .ok (.iastore, 1) := by decide +kernel
theorem dX6_numberTo_66 : decode cX6_numberTo 66 = .ok (.aload_n 0, 1) := by decide +kernel
theorem dX6_numberTo_67 : decode cX6_numberTo 67 = .ok (.iload 4, 2) := by decide +kernel
theorem dX6_numberTo_69 : decode cX6_numberTo 69 = .ok (.invokevirtual 111, 3) := by decide +kernel
theorem dX6_numberTo_72 : decode cX6_numberTo 72 = .ok (.return_, 1) := by decide +kernel
set_option maxRecDepth 20000 in
theorem ggX6_perhaps_X6_nextToken : GoodIn wsX6_perhaps wsX6_nextToken := goodIn_r _ [6, 7, 8, 9, 10, 11, 12, 13, 5, 14, 15, 16, 17, 18, 19, 20, 21, 22, 32, 33, 34, 35, 36, 37, 38, 39, 40, 41, 42, 43, 44, 45, 46, 47, 48, 49, 50, 51, 52, 53, 54, 55, 56, 57, 58] (by decide +kernel) (by decide +kernel)
set_option maxRecDepth 20000 in
theorem gX6_perhaps_X6_nextToken : GoodIn wsX6_perhaps (wsV RX6 94 RX6 yX6_nextToken wsX6_nextToken) := goodIn_app (goodIn_of _ (by decide +kernel)) ggX6_perhaps_X6_nextToken
set_option maxRecDepth 20000 in
theorem ggX6_perhaps_X6_numberTo : GoodIn wsX6_perhaps wsX6_numberTo := goodIn_r _ [26, 9, 7, 8, 10, 1, 27, 28, 29, 30, 5, 31, 2, 3, 4, 6, 11, 12, 13, 14, 15, 16, 17, 18, 19, 20, 21, 22, 32, 33, 34, 35, 36, 37, 38, 39, 40, 41, 42, 43, 44, 45, 46, 47, 48, 49, 50, 51, 52, 53, 54, 55, 56, 57, 58] (by decide +kernel) (by decide +kernel)
set_option maxRecDepth 20000 in
theorem gX6_perhaps_X6_numberTo : GoodIn wsX6_perhaps (wsV RX6 115 RX6 yX6_numberTo wsX6_numberTo) := goodIn_app (goodIn_of _ (by decide +kernel)) ggX6_perhaps_X6_numberTo
theorem dX6_perhaps_0 : decode cX6_perhaps 0 = .ok (.aload_n 0, 1) := by decide +kernel
theorem dX6_perhaps_1 : decode cX6_perhaps 1 = .ok (.getfield 90, 3) := by decide +kernel
theorem dX6_perhaps_4 : decode cX6_perhaps 4 = .ok (.ifCond .ne 19, 3) := by decide +kernel
theorem dX6_perhaps_7 : decode cX6_perhaps 7 = .ok (.iload_n 1, 1) := by decide +kernel
theorem dX6_perhaps_8 : decode cX6_perhaps 8 = .ok (.ifCond .eq 15, 3) := by decide +kernel
theorem dX6_perhaps_11 : decode cX6_perhaps 11 = .ok (.aload_n 0, 1) := by decide +kernel
theorem dX6_perhaps_12 : decode cX6_perhaps 12 = .ok (.invokevirtual 94, 3) := by decide +kernel
theorem dX6_perhaps_15 : decode cX6_perhaps 15 = .ok (.aload_n 0, 1) := by decide +kernel
theorem dX6_perhaps_16 : decode cX6_perhaps 16 = .ok (.iload_n 2, 1) := by decide +kernel
theorem dX6_perhaps_17 : decode cX6_perhaps 17 = .ok (.iload_n 3, 1) := by decide +kernel
theorem dX6_perhaps_18 : decode cX6_perhaps 18 = .ok (.iload 4, 2) := by decide +kernel
theorem dX6_perhaps_20 : decode cX6_perhaps 20 = .ok (.invokevirtual 115, 3) := by decide +kernel
theorem dX6_perhaps_23 : decode cX6_perhaps 23 = .ok (.return_, 1) := by decide +kernel
set_option maxRecDepth 20000 in
theorem ggX6_personHere_X6_needs : GoodIn wsX6_personHere wsX6_needs := goodIn_r _ [10, 5, 11, 12, 13, 9, 14, 3, 4, 2, 15, 16, 17, 18, 19, 20, 21, 22, 23, 24, 25, 26, 27, 52, 53, 54, 55, 56, 57, 58, 59, 60, 61, 62, 63, 64, 65, 66, 67, 68, 69, 70, 71, 72, 73, 74, 75, 76, 77, 78] (by decide +kernel) (by decide +kernel)
set_option maxRecDepth 20000 in
theorem gX6_personHere_X6_needs : GoodIn wsX6_personHere (wsV RX6 111 RX6 yX6_needs wsX6_needs) := goodIn_app (goodIn_of _ (by decide +kernel)) ggX6_personHere_X6_needs
set_option maxRecDepth 20000 in
theorem ggX6_personHere_X6_byteAt : GoodIn wsX6_personHere wsX6_byteAt := goodIn_r _ [19, 20, 21, 52, 53, 54, 55, 56, 57, 58, 59, 60, 61, 62, 63, 64, 65, 66, 67, 68, 69, 70, 71, 72, 73, 74, 75, 76, 77, 78] (by decide +kernel) (by decide +kernel)
set_option maxRecDepth 20000 in
theorem gX6_personHere_X6_byteAt : GoodIn wsX6_personHere (wsV RX6 73 RX6 yX6_byteAt wsX6_byteAt) := goodIn_app (goodIn_of _ (by decide +kernel)) ggX6_personHere_X6_byteAt
set_option maxRecDepth 20000 in
theorem ggX6_personHere_X6_comes : GoodIn wsX6_personHere wsX6_comes := goodIn_r _ [31, 1, 52, 53, 54, 55, 56, 57, 58, 59, 60, 61, 62, 63, 64, 65, 66, 67, 68, 69, 70, 71, 72, 73, 74, 75, 76, 77, 78] (by decide +kernel) (by decide +kernel)
set_option maxRecDepth 20000 in
theorem gX6_personHere_X6_comes : GoodIn wsX6_personHere (wsV RX6 119 RX6 yX6_comes wsX6_comes) := goodIn_app (goodIn_of _ (by decide +kernel)) ggX6_personHere_X6_comes
set_option maxRecDepth 20000 in
theorem ggX6_personHere_X6_numberTo : GoodIn wsX6_personHere wsX6_numberTo := goodIn_r _ [35, 2, 3, 4, 15, 5, 1, 6, 7, 8, 9, 10, 11, 12, 13, 14, 16, 17, 18, 19, 20, 21, 22, 23, 24, 25, 26, 27, 52, 53, 54, 55, 56, 57, 58, 59, 60, 61, 62, 63, 64, 65, 66, 67, 68, 69, 70, 71, 72, 73, 74, 75, 76, 77, 78] (by decide +kernel) (by decide +kernel)
set_option maxRecDepth 20000 in
theorem gX6_personHere_X6_numberTo : GoodIn wsX6_personHere (wsV RX6 115 RX6 yX6_numberTo wsX6_numberTo) := goodIn_app (goodIn_of _ (by decide +kernel)) ggX6_personHere_X6_numberTo
set_option maxRecDepth 20000 in
theorem ggX6_personHere_X6_isFour : GoodIn wsX6_personHere wsX6_isFour := goodIn_r _ [39, 40, 41, 42, 9, 43, 2, 3, 4, 16, 17, 18, 19, 20, 21, 52, 53, 54, 55, 56, 57, 58, 59, 60, 61, 62, 63, 64, 65, 66, 67, 68, 69, 70, 71, 72, 73, 74, 75, 76, 77, 78] (by decide +kernel) (by decide +kernel)
set_option maxRecDepth 20000 in
theorem gX6_personHere_X6_isFour : GoodIn wsX6_personHere (wsV RX6 105 RX6 yX6_isFour wsX6_isFour) := goodIn_app (goodIn_of _ (by decide +kernel)) ggX6_personHere_X6_isFour
set_option maxRecDepth 20000 in
theorem ggX6_personHere_X6_perhaps : GoodIn wsX6_personHere wsX6_perhaps := goodIn_r _ [47, 5, 11, 12, 13, 9, 14, 3, 4, 2, 15, 16, 17, 18, 19, 20, 21, 22, 23, 24, 25, 26, 27, 32, 33, 34, 35, 1, 6, 7, 8, 10, 52, 53, 54, 55, 56, 57, 58, 59, 60, 61, 62, 63, 64, 65, 66, 67, 68, 69, 70, 71, 72, 73, 74, 75, 76, 77, 78] (by decide +kernel) (by decide +kernel)
set_option maxRecDepth 20000 in
theorem gX6_personHere_X6_perhaps : GoodIn wsX6_personHere (wsV RX6 123 RX6 yX6_perhaps wsX6_perhaps) := goodIn_app (goodIn_of _ (by decide +kernel)) ggX6_personHere_X6_perhaps
set_option maxRecDepth 20000 in
theorem ggX6_personHere_X6_isFive : GoodIn wsX6_personHere wsX6_isFive := goodIn_r _ [51, 4, 40, 41, 42, 9, 43, 2, 3, 16, 17, 18, 19, 20, 21, 52, 53, 54, 55, 56, 57, 58, 59, 60, 61, 62, 63, 64, 65, 66, 67, 68, 69, 70, 71, 72, 73, 74, 75, 76, 77, 78] (by decide +kernel) (by decide +kernel)
set_option maxRecDepth 20000 in
theorem gX6_personHere_X6_isFive : GoodIn wsX6_personHere (wsV RX6 108 RX6 yX6_isFive wsX6_isFive) := goodIn_app (goodIn_of _ (by decide +kernel)) ggX6_personHere_X6_isFive
theorem dX6_personHere_0 : decode cX6_personHere 0 = .ok (.bipush 10, 2) := by decide +kernel
theorem dX6_personHere_2 : decode cX6_personHere 2 = .ok (.iconst 5, 1) := by decide +kernel
theorem dX6_personHere_3 : decode cX6_personHere 3 = .ok (.aload_n 0, 1) := by decide +kernel
theorem dX6_personHere_4 : decode cX6_personHere 4 = .ok (.getfield 7, 3) := by decide +kernel
theorem dX6_personHere_7 : decode cX6_personHere 7 = .ok (.iconst 0, 1) := by decide +kernel
theorem dX6_personHere_8 : decode cX6_personHere 8 = .ok (.iaload, 1) := by decide +kernel
theorem dX6_personHere_9 : decode cX6_personHere 9 = .ok (.imul, 1) := by decide +kernel
theorem dX6_personHere_10 : decode cX6_personHere 10 = .ok (.iadd, 1) := by decide +kernel
theorem dX6_personHere_11 : decode cX6_personHere 11 = .ok (.istore_n 2, 1) := by decide +kernel
theorem dX6_personHere_12 : decode cX6_personHere 12 = .ok (.aload_n 0, 1) := by decide +kernel
theorem dX6_personHere_13 : decode cX6_personHere 13 = .ok (.aload_n 0, 1) := by decide +kernel
theorem dX6_personHere_14 : decode cX6_personHere 14 = .ok (.getfield 7, 3) := by decide +kernel
theorem dX6_personHere_17 : decode cX6_personHere 17 = .ok (.iconst 0, 1) := by decide +kernel
theorem dX6_personHere_18 : decode cX6_personHere 18 = .ok (.iaload, 1) := by decide +kernel
theorem dX6_personHere_19 : decode cX6_personHere 19 = .ok (.bipush 8, 2) := by decide +kernel
theorem dX6_personHere_21 : decode cX6_personHere 21 = .ok (.if_icmp .ge 7, 3) := by decide +kernel
theorem dX6_personHere_24 : decode cX6_personHere 24 = .ok (.iconst 1, 1) := by decide +kernel
theorem dX6_personHere_25 : decode cX6_personHere 25 = .ok (.goto 4, 3) := by decide +kernel
theorem dX6_personHere_28 : decode cX6_personHere 28 = .ok (.iconst 0, 1) := by decide +kernel
theorem dX6_personHere_29 : decode cX6_personHere 29 = .ok (.invokevirtual 111, 3) := by decide +kernel
theorem dX6_personHere_32 : decode cX6_personHere 32 = .ok (.aload_n 0, 1) := by decide +kernel
theorem dX6_personHere_33 : decode cX6_personHere 33 = .ok (.aload_n 0, 1) := by decide +kernel
theorem dX6_personHere_34 : decode cX6_personHere 34 = .ok (.getfield 84, 3) := by decide +kernel
theorem dX6_personHere_37 : decode cX6_personHere 37 = .ok (.iconst 1, 1) := by decide +kernel
theorem dX6_personHere_38 : decode cX6_personHere 38 = .ok (.if_icmp .ne 48, 3) := by decide +kernel
theorem dX6_personHere_41 : decode cX6_personHere 41 = .ok (.aload_n 0, 1) := by decide +kernel
theorem dX6_personHere_42 : decode cX6_personHere 42 = .ok (.getfield 67, 3) := by decide +kernel
theorem dX6_personHere_45 : decode cX6_personHere 45 = .ok (.aload_n 0, 1) := by decide +kernel
theorem dX6_personHere_46 : decode cX6_personHere 46 = .ok (.getfield 70, 3) := by decide +kernel
theorem dX6_personHere_49 : decode cX6_personHere 49 = .ok (.isub, 1) := by decide +kernel
theorem dX6_personHere_50 : decode cX6_personHere 50 = .ok (.iconst 2, 1) := by decide +kernel
theorem dX6_personHere_51 : decode cX6_personHere 51 = .ok (.if_icmp .ne 35, 3) := by decide +kernel
theorem dX6_personHere_54 : decode cX6_personHere 54 = .ok (.aload_n 0, 1) := by decide +kernel
theorem dX6_personHere_55 : decode cX6_personHere 55 = .ok (.aload_n 0, 1) := by decide +kernel
theorem dX6_personHere_56 : decode cX6_personHere 56 = .ok (.getfield 70, 3) := by decide +kernel
theorem dX6_personHere_59 : decode cX6_personHere 59 = .ok (.invokevirtual 73, 3) := by decide +kernel
theorem dX6_personHere_62 : decode cX6_personHere 62 = .ok (.bipush 97, 2) := by decide +kernel
theorem dX6_personHere_64 : decode cX6_personHere 64 = .ok (.if_icmp .ne 22, 3) := by decide +kernel
theorem dX6_personHere_67 : decode cX6_personHere 67 = .ok (.aload_n 0, 1) := by decide +kernel
theorem dX6_personHere_68 : decode cX6_personHere 68 = .ok (.aload_n 0, 1) := by decide +kernel
theorem dX6_personHere_69 : decode cX6_personHere 69 = .ok (.getfield 70, 3) := by decide +kernel
theorem dX6_personHere_72 : decode cX6_personHere 72 = .ok (.iconst 1, 1) := by decide +kernel
theorem dX6_personHere_73 : decode cX6_personHere 73 = .ok (.iadd, 1) := by decide +kernel
theorem dX6_personHere_74 : decode cX6_personHere 74 = .ok (.invokevirtual 73, 3) := by decide +kernel
theorem dX6_personHere_77 : decode cX6_personHere 77 = .ok (.bipush 116, 2) := by decide +kernel
theorem dX6_personHere_79 : decode cX6_personHere 79 = .ok (.if_icmp .ne 7, 3) := by decide +kernel
theorem dX6_personHere_82 : decode cX6_personHere 82 = .ok (.iconst 1, 1) := by decide +kernel
theorem dX6_personHere_83 : decode cX6_personHere 83 = .ok (.goto 4, 3) := by decide +kernel
theorem dX6_personHere_86 : decode cX6_personHere 86 = .ok (.iconst 0, 1) := by decide +kernel
theorem dX6_personHere_87 : decode cX6_personHere 87 = .ok (.invokevirtual 111, 3) := by decide +kernel
theorem dX6_personHere_90 : decode cX6_personHere 90 = .ok (.aload_n 0, 1) := by decide +kernel
theorem dX6_personHere_91 : decode cX6_personHere 91 = .ok (.getfield 90, 3) := by decide +kernel
theorem dX6_personHere_94 : decode cX6_personHere 94 = .ok (.ifCond .ne 11, 3) := by decide +kernel
theorem dX6_personHere_97 : decode cX6_personHere 97 = .ok (.aload_n 0, 1) := by decide +kernel
theorem dX6_personHere_98 : decode cX6_personHere 98 = .ok (.iload_n 1, 1) := by decide +kernel
theorem dX6_personHere_99 : decode cX6_personHere 99 = .ok (.iconst 5, 1) := by decide +kernel
theorem dX6_personHere_100 : decode cX6_personHere 100 = .ok (.iconst 0, 1) := by decide +kernel
theorem dX6_personHere_101 : decode cX6_personHere 101 = .ok (.iconst 0, 1) := by decide +kernel
theorem dX6_personHere_102 : decode cX6_personHere 102 = .ok (.invokevirtual 119, 3) := by decide +kernel
theorem dX6_personHere_105 : decode cX6_personHere 105 = .ok (.aload_n 0, 1) := by decide +kernel
theorem dX6_personHere_106 : decode cX6_personHere 106 = .ok (.aload_n 0, 1) := by decide +kernel
theorem dX6_personHere_107 : decode cX6_personHere 107 = .ok (.getfield 90, 3) := by decide +kernel
theorem dX6_personHere_110 : decode cX6_personHere 110 = .ok (.ifCond .eq 7, 3) := by decide +kernel
theorem dX6_personHere_113 : decode cX6_personHere 113 = .ok (.iconst 0, 1) := by decide +kernel
theorem dX6_personHere_114 : decode cX6_personHere 114 = .ok (.goto 6, 3) := by decide +kernel
theorem dX6_personHere_117 : decode cX6_personHere 117 = .ok (.iload_n 2, 1) := by decide +kernel
theorem dX6_personHere_118 : decode cX6_personHere 118 = .ok (.iconst 3, 1) := by decide +kernel
theorem dX6_personHere_119 : decode cX6_personHere 119 = .ok (.iadd, 1) := by decide +kernel
theorem dX6_personHere_120 : decode cX6_personHere 120 = .ok (.iconst 0, 1) := by decide +kernel
theorem dX6_personHere_121 : decode cX6_personHere 121 = .ok (.bipush 11, 2) := by decide +kernel
theorem dX6_personHere_123 : decode cX6_personHere 123 = .ok (.invokevirtual 115, 3) := by decide +kernel
theorem dX6_personHere_126 : decode cX6_personHere 126 = .ok (.aload_n 0, 1) := by decide +kernel
theorem dX6_personHere_127 : decode cX6_personHere 127 = .ok (.aload_n 0, 1) := by decide +kernel
theorem dX6_personHere_128 : decode cX6_personHere 128 = .ok (.bipush 98, 2) := by decide +kernel
theorem dX6_personHere_130 : decode cX6_personHere 130 = .ok (.bipush 101, 2) := by decide +kernel
theorem dX6_personHere_132 : decode cX6_personHere 132 = .ok (.bipush 97, 2) := by decide +kernel
theorem dX6_personHere_134 : decode cX6_personHere 134 = .ok (.bipush 116, 2) := by decide +kernel
theorem dX6_personHere_136 : decode cX6_personHere 136 = .ok (.invokevirtual 105, 3) := by decide +kernel
theorem dX6_personHere_139 : decode cX6_personHere 139 = .ok (.iload_n 2, 1) := by decide +kernel
theorem dX6_personHere_140 : decode cX6_personHere 140 = .ok (.iconst 1, 1) := by decide +kernel
theorem dX6_personHere_141 : decode cX6_personHere 141 = .ok (.iadd, 1) := by decide +kernel
theorem dX6_personHere_142 : decode cX6_personHere 142 = .ok (.iconst 1, 1) := by decide +kernel
theorem dX6_personHere_143 : decode cX6_personHere 143 = .ok (.bipush 9, 2) := by decide +kernel
theorem dX6_personHere_145 : decode cX6_personHere 145 = .ok (.invokevirtual 123, 3) := by decide +kernel
theorem dX6_personHere_148 : decode cX6_personHere 148 = .ok (.aload_n 0, 1) := by decide +kernel
theorem dX6_personHere_149 : decode cX6_personHere 149 = .ok (.aload_n 0, 1) := by decide +kernel
theorem dX6_personHere_150 : decode cX6_personHere 150 = .ok (.bipush 112, 2) := by decide +kernel
theorem dX6_personHere_152 : decode cX6_personHere 152 = .ok (.bipush 104, 2) := by decide +kernel
theorem dX6_personHere_154 : decode cX6_personHere 154 = .ok (.bipush 97, 2) := by decide +kernel
theorem dX6_personHere_156 : decode cX6_personHere 156 = .ok (.bipush 115, 2) := by decide +kernel
theorem dX6_personHere_158 : decode cX6_personHere 158 = .ok (.bipush 101, 2) := by decide +kernel
theorem dX6_personHere_160 : decode cX6_personHere 160 = .ok (.invokevirtual 108, 3) := by decide +kernel
theorem dX6_personHere_163 : decode cX6_personHere 163 = .ok (.iload_n 2, 1) := by decide +kernel
theorem dX6_personHere_164 : decode cX6_personHere 164 = .ok (.iconst 2, 1) := by decide +kernel
theorem dX6_personHere_165 : decode cX6_personHere 165 = .ok (.iadd, 1) := by decide +kernel
theorem dX6_personHere_166 : decode cX6_personHere 166 = .ok (.iconst 0, 1) := by decide +kernel
theorem dX6_personHere_167 : decode cX6_personHere 167 = .ok (.bipush 8, 2) := by decide +kernel
theorem dX6_personHere_169 : decode cX6_personHere 169 = .ok (.invokevirtual 123, 3) := by decide +kernel
theorem dX6_personHere_172 : decode cX6_personHere 172 = .ok (.return_, 1) := by decide +kernel
set_option maxRecDepth 20000 in
theorem ggX6_lawHere_X6_isFour : GoodIn wsX6_lawHere wsX6_isFour := goodIn_r _ [5, 6, 7, 8, 4, 9, 10, 11, 12, 13, 14, 15, 16, 17, 18, 23, 24, 25, 26, 27, 28, 29, 30, 31, 32, 33, 34, 35, 36, 37, 38, 39, 40, 41, 42, 43, 44, 45, 46, 47, 48, 49] (by decide +kernel) (by decide +kernel)
set_option maxRecDepth 20000 in
theorem gX6_lawHere_X6_isFour : GoodIn wsX6_lawHere (wsV RX6 105 RX6 yX6_isFour wsX6_isFour) := goodIn_app (goodIn_of _ (by decide +kernel)) ggX6_lawHere_X6_isFour
set_option maxRecDepth 20000 in
theorem ggX6_lawHere_X6_isFive : GoodIn wsX6_lawHere wsX6_isFive := goodIn_r _ [22, 12, 6, 7, 8, 4, 9, 10, 11, 13, 14, 15, 16, 17, 18, 23, 24, 25, 26, 27, 28, 29, 30, 31, 32, 33, 34, 35, 36, 37, 38, 39, 40, 41, 42, 43, 44, 45, 46, 47, 48, 49] (by decide +kernel) (by decide +kernel)
set_option maxRecDepth 20000 in
theorem gX6_lawHere_X6_isFive : GoodIn wsX6_lawHere (wsV RX6 108 RX6 yX6_isFive wsX6_isFive) := goodIn_app (goodIn_of _ (by decide +kernel)) ggX6_lawHere_X6_isFive
theorem dX6_lawHere_0 : decode cX6_lawHere 0 = .ok (.aload_n 0, 1) := by decide +kernel
theorem dX6_lawHere_1 : decode cX6_lawHere 1 = .ok (.bipush 103, 2) := by decide +kernel
theorem dX6_lawHere_3 : decode cX6_lawHere 3 = .ok (.bipush 111, 2) := by decide +kernel
theorem dX6_lawHere_5 : decode cX6_lawHere 5 = .ok (.bipush 97, 2) := by decide +kernel
theorem dX6_lawHere_7 : decode cX6_lawHere 7 = .ok (.bipush 108, 2) := by decide +kernel
theorem dX6_lawHere_9 : decode cX6_lawHere 9 = .ok (.invokevirtual 105, 3) := by decide +kernel
theorem dX6_lawHere_12 : decode cX6_lawHere 12 = .ok (.ifCond .eq 6, 3) := by decide +kernel
theorem dX6_lawHere_15 : decode cX6_lawHere 15 = .ok (.bipush 6, 2) := by decide +kernel
theorem dX6_lawHere_17 : decode cX6_lawHere 17 = .ok (.ireturn, 1) := by decide +kernel
theorem dX6_lawHere_18 : decode cX6_lawHere 18 = .ok (.aload_n 0, 1) := by decide +kernel
theorem dX6_lawHere_19 : decode cX6_lawHere 19 = .ok (.bipush 108, 2) := by decide +kernel
theorem dX6_lawHere_21 : decode cX6_lawHere 21 = .ok (.bipush 111, 2) := by decide +kernel
theorem dX6_lawHere_23 : decode cX6_lawHere 23 = .ok (.bipush 117, 2) := by decide +kernel
theorem dX6_lawHere_25 : decode cX6_lawHere 25 = .ok (.bipush 100, 2) := by decide +kernel
theorem dX6_lawHere_27 : decode cX6_lawHere 27 = .ok (.invokevirtual 105, 3) := by decide +kernel
theorem dX6_lawHere_30 : decode cX6_lawHere 30 = .ok (.ifCond .eq 6, 3) := by decide +kernel
theorem dX6_lawHere_33 : decode cX6_lawHere 33 = .ok (.bipush 7, 2) := by decide +kernel
theorem dX6_lawHere_35 : decode cX6_lawHere 35 = .ok (.ireturn, 1) := by decide +kernel
theorem dX6_lawHere_36 : decode cX6_lawHere 36 = .ok (.aload_n 0, 1) := by decide +kernel
theorem dX6_lawHere_37 : decode cX6_lawHere 37 = .ok (.bipush 119, 2) := by decide +kernel
theorem dX6_lawHere_39 : decode cX6_lawHere 39 = .ok (.bipush 97, 2) := by decide +kernel
theorem dX6_lawHere_41 : decode cX6_lawHere 41 = .ok (.bipush 116, 2) := by decide +kernel
theorem dX6_lawHere_43 : decode cX6_lawHere 43 = .ok (.bipush 99, 2) := by decide +kernel
theorem dX6_lawHere_45 : decode cX6_lawHere 45 = .ok (.bipush 104, 2) := by decide +kernel
theorem dX6_lawHere_47 : decode cX6_lawHere 47 = .ok (.invokevirtual 108, 3) := by decide +kernel
theorem dX6_lawHere_50 : decode cX6_lawHere 50 = .ok (.ifCond .eq 6, 3) := by decide +kernel
theorem dX6_lawHere_53 : decode cX6_lawHere 53 = .ok (.bipush 8, 2) := by decide +kernel
theorem dX6_lawHere_55 : decode cX6_lawHere 55 = .ok (.ireturn, 1) := by decide +kernel
theorem dX6_lawHere_56 : decode cX6_lawHere 56 = .ok (.aload_n 0, 1) := by decide +kernel
theorem dX6_lawHere_57 : decode cX6_lawHere 57 = .ok (.bipush 99, 2) := by decide +kernel
theorem dX6_lawHere_59 : decode cX6_lawHere 59 = .ok (.bipush 111, 2) := by decide +kernel
theorem dX6_lawHere_61 : decode cX6_lawHere 61 = .ok (.bipush 117, 2) := by decide +kernel
theorem dX6_lawHere_63 : decode cX6_lawHere 63 = .ok (.bipush 103, 2) := by decide +kernel
theorem dX6_lawHere_65 : decode cX6_lawHere 65 = .ok (.bipush 104, 2) := by decide +kernel
theorem dX6_lawHere_67 : decode cX6_lawHere 67 = .ok (.invokevirtual 108, 3) := by decide +kernel
theorem dX6_lawHere_70 : decode cX6_lawHere 70 = .ok (.ifCond .eq 8, 3) := by decide +kernel
theorem dX6_lawHere_73 : decode cX6_lawHere 73 = .ok (.bipush 9, 2) := by decide +kernel
theorem dX6_lawHere_75 : decode cX6_lawHere 75 = .ok (.goto 4, 3) := by decide +kernel
theorem dX6_lawHere_78 : decode cX6_lawHere 78 = .ok (.iconst (-1), 1) := by decide +kernel
theorem dX6_lawHere_79 : decode cX6_lawHere 79 = .ok (.ireturn, 1) := by decide +kernel
set_option maxRecDepth 20000 in
theorem ggX6_itemHere_X6_kindHere : GoodIn wsX6_itemHere wsX6_kindHere := goodIn_r _ [7, 8, 9, 10, 6, 11, 1, 12, 2, 13, 14, 15, 16, 17, 18, 19, 20, 21, 22, 23, 24, 25, 26, 27, 28, 29, 30, 68, 69, 70, 71, 72, 73, 74, 75, 76, 77, 78, 79, 80, 81, 82, 83, 84, 85, 86, 87, 88, 89, 90, 91, 92, 93, 94] (by decide +kernel) (by decide +kernel)
set_option maxRecDepth 20000 in
theorem gX6_itemHere_X6_kindHere : GoodIn wsX6_itemHere (wsV RX6 127 RX6 yX6_kindHere wsX6_kindHere) := goodIn_app (goodIn_of _ (by decide +kernel)) ggX6_itemHere_X6_kindHere
set_option maxRecDepth 20000 in
theorem ggX6_itemHere_X6_lawHere : GoodIn wsX6_itemHere wsX6_lawHere := goodIn_r _ [34, 23, 24, 25, 6, 26, 8, 9, 10, 11, 1, 12, 2, 13, 14, 15, 16, 17, 18, 27, 28, 29, 30, 68, 69, 70, 71, 72, 73, 74, 75, 76, 77, 78, 79, 80, 81, 82, 83, 84, 85, 86, 87, 88, 89, 90, 91, 92, 93, 94] (by decide +kernel) (by decide +kernel)
set_option maxRecDepth 20000 in
theorem gX6_itemHere_X6_lawHere : GoodIn wsX6_itemHere (wsV RX6 131 RX6 yX6_lawHere wsX6_lawHere) := goodIn_app (goodIn_of _ (by decide +kernel)) ggX6_itemHere_X6_lawHere
set_option maxRecDepth 20000 in
theorem ggX6_itemHere_X6_personHere : GoodIn wsX6_itemHere wsX6_personHere := goodIn_r _ [38, 39, 1, 12, 2, 40, 41, 42, 43, 6, 44, 45, 46, 47, 48, 49, 13, 14, 15, 16, 17, 18, 50, 51, 52, 53, 54, 55, 56, 57, 58, 59, 60, 61, 62, 63, 23, 24, 25, 26, 8, 9, 10, 11, 64, 65, 66, 67, 27, 28, 29, 30, 68, 69, 70, 71, 72, 73, 74, 75, 76, 77, 78, 79, 80, 81, 82, 83, 84, 85, 86, 87, 88, 89, 90, 91, 92, 93, 94] (by decide +kernel) (by decide +kernel)
set_option maxRecDepth 20000 in
theorem gX6_itemHere_X6_personHere : GoodIn wsX6_itemHere (wsV RX6 134 RX6 yX6_personHere wsX6_personHere) := goodIn_app (goodIn_of _ (by decide +kernel)) ggX6_itemHere_X6_personHere
set_option maxRecDepth 20000 in
theorem ggX6_itemHere_X6_nextToken : GoodIn wsX6_itemHere wsX6_nextToken := goodIn_r _ [48, 12, 2, 1, 49, 13, 14, 15, 6, 16, 17, 18, 50, 51, 52, 53, 54, 55, 68, 69, 70, 71, 72, 73, 74, 75, 76, 77, 78, 79, 80, 81, 82, 83, 84, 85, 86, 87, 88, 89, 90, 91, 92, 93, 94] (by decide +kernel) (by decide +kernel)
set_option maxRecDepth 20000 in
theorem gX6_itemHere_X6_nextToken : GoodIn wsX6_itemHere (wsV RX6 94 RX6 yX6_nextToken wsX6_nextToken) := goodIn_app (goodIn_of _ (by decide +kernel)) ggX6_itemHere_X6_nextToken
set_option maxRecDepth 20000 in
theorem ggX6_itemHere_X6_numberTo : GoodIn wsX6_itemHere wsX6_numberTo := goodIn_r _ [63, 1, 12, 2, 49, 40, 39, 41, 42, 43, 6, 44, 45, 46, 47, 48, 13, 14, 15, 16, 17, 18, 50, 51, 52, 53, 54, 55, 68, 69, 70, 71, 72, 73, 74, 75, 76, 77, 78, 79, 80, 81, 82, 83, 84, 85, 86, 87, 88, 89, 90, 91, 92, 93, 94] (by decide +kernel) (by decide +kernel)
set_option maxRecDepth 20000 in
theorem gX6_itemHere_X6_numberTo : GoodIn wsX6_itemHere (wsV RX6 115 RX6 yX6_numberTo wsX6_numberTo) := goodIn_app (goodIn_of _ (by decide +kernel)) ggX6_itemHere_X6_numberTo
set_option maxRecDepth 20000 in
theorem ggX6_itemHere_X6_needs : GoodIn wsX6_itemHere wsX6_needs := goodIn_r _ [44, 40, 45, 46, 47, 6, 48, 12, 2, 1, 49, 13, 14, 15, 16, 17, 18, 50, 51, 52, 53, 54, 55, 68, 69, 70, 71, 72, 73, 74, 75, 76, 77, 78, 79, 80, 81, 82, 83, 84, 85, 86, 87, 88, 89, 90, 91, 92, 93, 94] (by decide +kernel) (by decide +kernel)
set_option maxRecDepth 20000 in
theorem gX6_itemHere_X6_needs : GoodIn wsX6_itemHere (wsV RX6 111 RX6 yX6_needs wsX6_needs) := goodIn_app (goodIn_of _ (by decide +kernel)) ggX6_itemHere_X6_needs
set_option maxRecDepth 20000 in
theorem ggX6_itemHere_X6_byteAt : GoodIn wsX6_itemHere wsX6_byteAt := goodIn_r _ [16, 17, 18, 68, 69, 70, 71, 72, 73, 74, 75, 76, 77, 78, 79, 80, 81, 82, 83, 84, 85, 86, 87, 88, 89, 90, 91, 92, 93, 94] (by decide +kernel) (by decide +kernel)
set_option maxRecDepth 20000 in
theorem gX6_itemHere_X6_byteAt : GoodIn wsX6_itemHere (wsV RX6 73 RX6 yX6_byteAt wsX6_byteAt) := goodIn_app (goodIn_of _ (by decide +kernel)) ggX6_itemHere_X6_byteAt
theorem dX6_itemHere_0 : decode cX6_itemHere 0 = .ok (.aload_n 0, 1) := by decide +kernel
theorem dX6_itemHere_1 : decode cX6_itemHere 1 = .ok (.invokevirtual 127, 3) := by decide +kernel
theorem dX6_itemHere_4 : decode cX6_itemHere 4 = .ok (.istore_n 1, 1) := by decide +kernel
theorem dX6_itemHere_5 : decode cX6_itemHere 5 = .ok (.aload_n 0, 1) := by decide +kernel
theorem dX6_itemHere_6 : decode cX6_itemHere 6 = .ok (.invokevirtual 131, 3) := by decide +kernel
theorem dX6_itemHere_9 : decode cX6_itemHere 9 = .ok (.istore_n 2, 1) := by decide +kernel
theorem dX6_itemHere_10 : decode cX6_itemHere 10 = .ok (.iload_n 1, 1) := by decide +kernel
theorem dX6_itemHere_11 : decode cX6_itemHere 11 = .ok (.ifCond .lt 11, 3) := by decide +kernel
theorem dX6_itemHere_14 : decode cX6_itemHere 14 = .ok (.aload_n 0, 1) := by decide +kernel
theorem dX6_itemHere_15 : decode cX6_itemHere 15 = .ok (.iload_n 1, 1) := by decide +kernel
theorem dX6_itemHere_16 : decode cX6_itemHere 16 = .ok (.invokevirtual 134, 3) := by decide +kernel
theorem dX6_itemHere_19 : decode cX6_itemHere 19 = .ok (.goto 48, 3) := by decide +kernel
theorem dX6_itemHere_22 : decode cX6_itemHere 22 = .ok (.iload_n 2, 1) := by decide +kernel
theorem dX6_itemHere_23 : decode cX6_itemHere 23 = .ok (.ifCond .lt 39, 3) := by decide +kernel
theorem dX6_itemHere_26 : decode cX6_itemHere 26 = .ok (.aload_n 0, 1) := by decide +kernel
theorem dX6_itemHere_27 : decode cX6_itemHere 27 = .ok (.invokevirtual 94, 3) := by decide +kernel
theorem dX6_itemHere_30 : decode cX6_itemHere 30 = .ok (.aload_n 0, 1) := by decide +kernel
theorem dX6_itemHere_31 : decode cX6_itemHere 31 = .ok (.iload_n 2, 1) := by decide +kernel
theorem dX6_itemHere_32 : decode cX6_itemHere 32 = .ok (.iload_n 2, 1) := by decide +kernel
theorem dX6_itemHere_33 : decode cX6_itemHere 33 = .ok (.bipush 6, 2) := by decide +kernel
theorem dX6_itemHere_35 : decode cX6_itemHere 35 = .ok (.if_icmp .ne 7, 3) := by decide +kernel
theorem dX6_itemHere_38 : decode cX6_itemHere 38 = .ok (.iconst 1, 1) := by decide +kernel
theorem dX6_itemHere_39 : decode cX6_itemHere 39 = .ok (.goto 4, 3) := by decide +kernel
theorem dX6_itemHere_42 : decode cX6_itemHere 42 = .ok (.iconst 0, 1) := by decide +kernel
theorem dX6_itemHere_43 : decode cX6_itemHere 43 = .ok (.iload_n 2, 1) := by decide +kernel
theorem dX6_itemHere_44 : decode cX6_itemHere 44 = .ok (.bipush 7, 2) := by decide +kernel
theorem dX6_itemHere_46 : decode cX6_itemHere 46 = .ok (.if_icmp .ne 8, 3) := by decide +kernel
theorem dX6_itemHere_49 : decode cX6_itemHere 49 = .ok (.bipush 9, 2) := by decide +kernel
theorem dX6_itemHere_51 : decode cX6_itemHere 51 = .ok (.goto 5, 3) := by decide +kernel
theorem dX6_itemHere_54 : decode cX6_itemHere 54 = .ok (.bipush 99, 2) := by decide +kernel
theorem dX6_itemHere_56 : decode cX6_itemHere 56 = .ok (.invokevirtual 115, 3) := by decide +kernel
theorem dX6_itemHere_59 : decode cX6_itemHere 59 = .ok (.goto 8, 3) := by decide +kernel
theorem dX6_itemHere_62 : decode cX6_itemHere 62 = .ok (.aload_n 0, 1) := by decide +kernel
theorem dX6_itemHere_63 : decode cX6_itemHere 63 = .ok (.iconst 0, 1) := by decide +kernel
theorem dX6_itemHere_64 : decode cX6_itemHere 64 = .ok (.invokevirtual 111, 3) := by decide +kernel
theorem dX6_itemHere_67 : decode cX6_itemHere 67 = .ok (.aload_n 0, 1) := by decide +kernel
theorem dX6_itemHere_68 : decode cX6_itemHere 68 = .ok (.aload_n 0, 1) := by decide +kernel
theorem dX6_itemHere_69 : decode cX6_itemHere 69 = .ok (.getfield 84, 3) := by decide +kernel
theorem dX6_itemHere_72 : decode cX6_itemHere 72 = .ok (.iconst 3, 1) := by decide +kernel
theorem dX6_itemHere_73 : decode cX6_itemHere 73 = .ok (.if_icmp .ne 20, 3) := by decide +kernel
theorem dX6_itemHere_76 : decode cX6_itemHere 76 = .ok (.aload_n 0, 1) := by decide +kernel
theorem dX6_itemHere_77 : decode cX6_itemHere 77 = .ok (.aload_n 0, 1) := by decide +kernel
theorem dX6_itemHere_78 : decode cX6_itemHere 78 = .ok (.getfield 70, 3) := by decide +kernel
theorem dX6_itemHere_81 : decode cX6_itemHere 81 = .ok (.invokevirtual 73, 3) := by decide +kernel
theorem dX6_itemHere_84 : decode cX6_itemHere 84 = .ok (.bipush 59, 2) := by decide +kernel
theorem dX6_itemHere_86 : decode cX6_itemHere 86 = .ok (.if_icmp .ne 7, 3) := by decide +kernel
theorem dX6_itemHere_89 : decode cX6_itemHere 89 = .ok (.iconst 1, 1) := by decide +kernel
theorem dX6_itemHere_90 : decode cX6_itemHere 90 = .ok (.goto 4, 3) := by decide +kernel
theorem dX6_itemHere_93 : decode cX6_itemHere 93 = .ok (.iconst 0, 1) := by decide +kernel
theorem dX6_itemHere_94 : decode cX6_itemHere 94 = .ok (.invokevirtual 111, 3) := by decide +kernel
theorem dX6_itemHere_97 : decode cX6_itemHere 97 = .ok (.return_, 1) := by decide +kernel
set_option maxRecDepth 20000 in
theorem ggX6_town_X6_copyRow : GoodIn wsX6_town wsX6_copyRow := goodIn_r _ [12] (by decide +kernel) (by decide +kernel)
set_option maxRecDepth 20000 in
theorem gX6_town_X6_copyRow : GoodIn wsX6_town (va_wsS RX6 138 yX6_copyRow wsX6_copyRow) := goodIn_app (goodIn_of _ (by decide +kernel)) ggX6_town_X6_copyRow
set_option maxRecDepth 20000 in
theorem ggX6_town_X6_begins : GoodIn wsX6_town wsX6_begins := goodIn_r _ [16, 1, 81, 82, 83, 84, 85, 86, 87, 88, 89, 90, 91, 92, 93, 94, 95, 96, 97, 98, 99, 100, 101, 102, 103, 104, 105, 106, 107] (by decide +kernel) (by decide +kernel)
set_option maxRecDepth 20000 in
theorem gX6_town_X6_begins : GoodIn wsX6_town (wsV RX6 52 RX6 yX6_begins wsX6_begins) := goodIn_app (goodIn_of _ (by decide +kernel)) ggX6_town_X6_begins
set_option maxRecDepth 20000 in
theorem ggX6_town_X6_nextToken : GoodIn wsX6_town wsX6_nextToken := goodIn_r _ [20, 3, 7, 5, 21, 22, 23, 24, 11, 25, 6, 26, 27, 28, 29, 30, 31, 32, 81, 82, 83, 84, 85, 86, 87, 88, 89, 90, 91, 92, 93, 94, 95, 96, 97, 98, 99, 100, 101, 102, 103, 104, 105, 106, 107] (by decide +kernel) (by decide +kernel)
set_option maxRecDepth 20000 in
theorem gX6_town_X6_nextToken : GoodIn wsX6_town (wsV RX6 94 RX6 yX6_nextToken wsX6_nextToken) := goodIn_app (goodIn_of _ (by decide +kernel)) ggX6_town_X6_nextToken
set_option maxRecDepth 20000 in
theorem ggX6_town_X6_itemHere : GoodIn wsX6_town wsX6_itemHere := goodIn_r _ [36, 5, 7, 37, 38, 39, 11, 40, 41, 42, 43, 44, 3, 22, 23, 24, 25, 6, 26, 45, 46, 47, 48, 49, 50, 51, 52, 53, 54, 55, 56, 57, 58, 59, 60, 61, 62, 63, 64, 1, 4, 65, 66, 67, 68, 17, 18, 19, 20, 21, 27, 28, 29, 30, 31, 32, 69, 70, 71, 72, 73, 74, 75, 76, 77, 78, 79, 80, 81, 82, 83, 84, 85, 86, 87, 88, 89, 90, 91, 92, 93, 94, 95, 96, 97, 98, 99, 100, 101, 102, 103, 104, 105, 106, 107] (by decide +kernel) (by decide +kernel)
set_option maxRecDepth 20000 in
theorem gX6_town_X6_itemHere : GoodIn wsX6_town (wsV RX6 142 RX6 yX6_itemHere wsX6_itemHere) := goodIn_app (goodIn_of _ (by decide +kernel)) ggX6_town_X6_itemHere
theorem dX6_town_0 : decode cX6_town 0 = .ok (.aload_n 0, 1) := by decide +kernel
theorem dX6_town_1 : decode cX6_town 1 = .ok (.getfield 7, 3) := by decide +kernel
theorem dX6_town_4 : decode cX6_town 4 = .ok (.aload_n 0, 1) := by decide +kernel
theorem dX6_town_5 : decode cX6_town 5 = .ok (.getfield 19, 3) := by decide +kernel
theorem dX6_town_8 : decode cX6_town 8 = .ok (.invokestatic 138, 3) := by decide +kernel
theorem dX6_town_11 : decode cX6_town 11 = .ok (.aload_n 0, 1) := by decide +kernel
theorem dX6_town_12 : decode cX6_town 12 = .ok (.invokevirtual 52, 3) := by decide +kernel
theorem dX6_town_15 : decode cX6_town 15 = .ok (.aload_n 0, 1) := by decide +kernel
theorem dX6_town_16 : decode cX6_town 16 = .ok (.iconst 0, 1) := by decide +kernel
theorem dX6_town_17 : decode cX6_town 17 = .ok (.putfield 67, 3) := by decide +kernel
theorem dX6_town_20 : decode cX6_town 20 = .ok (.aload_n 0, 1) := by decide +kernel
theorem dX6_town_21 : decode cX6_town 21 = .ok (.iconst 0, 1) := by decide +kernel
theorem dX6_town_22 : decode cX6_town 22 = .ok (.putfield 90, 3) := by decide +kernel
theorem dX6_town_25 : decode cX6_town 25 = .ok (.aload_n 0, 1) := by decide +kernel
theorem dX6_town_26 : decode cX6_town 26 = .ok (.invokevirtual 94, 3) := by decide +kernel
theorem dX6_town_29 : decode cX6_town 29 = .ok (.aload_n 0, 1) := by decide +kernel
theorem dX6_town_30 : decode cX6_town 30 = .ok (.getfield 90, 3) := by decide +kernel
theorem dX6_town_33 : decode cX6_town 33 = .ok (.ifCond .ne 17, 3) := by decide +kernel
theorem dX6_town_36 : decode cX6_town 36 = .ok (.aload_n 0, 1) := by decide +kernel
theorem dX6_town_37 : decode cX6_town 37 = .ok (.getfield 84, 3) := by decide +kernel
theorem dX6_town_40 : decode cX6_town 40 = .ok (.ifCond .eq 10, 3) := by decide +kernel
theorem dX6_town_43 : decode cX6_town 43 = .ok (.aload_n 0, 1) := by decide +kernel
theorem dX6_town_44 : decode cX6_town 44 = .ok (.invokevirtual 142, 3) := by decide +kernel
theorem dX6_town_47 : decode cX6_town 47 = .ok (.goto (-18), 3) := by decide +kernel
theorem dX6_town_50 : decode cX6_town 50 = .ok (.aload_n 0, 1) := by decide +kernel
theorem dX6_town_51 : decode cX6_town 51 = .ok (.iconst 0, 1) := by decide +kernel
theorem dX6_town_52 : decode cX6_town 52 = .ok (.putfield 61, 3) := by decide +kernel
theorem dX6_town_55 : decode cX6_town 55 = .ok (.aload_n 0, 1) := by decide +kernel
theorem dX6_town_56 : decode cX6_town 56 = .ok (.getfield 90, 3) := by decide +kernel
theorem dX6_town_59 : decode cX6_town 59 = .ok (.ifCond .eq 22, 3) := by decide +kernel
theorem dX6_town_62 : decode cX6_town 62 = .ok (.aload_n 0, 1) := by decide +kernel
theorem dX6_town_63 : decode cX6_town 63 = .ok (.getfield 19, 3) := by decide +kernel
theorem dX6_town_66 : decode cX6_town 66 = .ok (.aload_n 0, 1) := by decide +kernel
theorem dX6_town_67 : decode cX6_town 67 = .ok (.getfield 7, 3) := by decide +kernel
theorem dX6_town_70 : decode cX6_town 70 = .ok (.invokestatic 138, 3) := by decide +kernel
theorem dX6_town_73 : decode cX6_town 73 = .ok (.bipush (-100), 2) := by decide +kernel
theorem dX6_town_75 : decode cX6_town 75 = .ok (.aload_n 0, 1) := by decide +kernel
theorem dX6_town_76 : decode cX6_town 76 = .ok (.getfield 70, 3) := by decide +kernel
theorem dX6_town_79 : decode cX6_town 79 = .ok (.isub, 1) := by decide +kernel
theorem dX6_town_80 : decode cX6_town 80 = .ok (.ireturn, 1) := by decide +kernel
theorem dX6_town_81 : decode cX6_town 81 = .ok (.aload_n 0, 1) := by decide +kernel
theorem dX6_town_82 : decode cX6_town 82 = .ok (.iconst 0, 1) := by decide +kernel
theorem dX6_town_83 : decode cX6_town 83 = .ok (.putfield 145, 3) := by decide +kernel
theorem dX6_town_86 : decode cX6_town 86 = .ok (.aload_n 0, 1) := by decide +kernel
theorem dX6_town_87 : decode cX6_town 87 = .ok (.getfield 7, 3) := by decide +kernel
theorem dX6_town_90 : decode cX6_town 90 = .ok (.iconst 0, 1) := by decide +kernel
theorem dX6_town_91 : decode cX6_town 91 = .ok (.iaload, 1) := by decide +kernel
theorem dX6_town_92 : decode cX6_town 92 = .ok (.ireturn, 1) := by decide +kernel
set_option maxRecDepth 20000 in
theorem ggX6_set_X6_isIn : GoodIn wsX6_set wsX6_isIn := goodIn_r _ [7] (by decide +kernel) (by decide +kernel)
set_option maxRecDepth 20000 in
theorem gX6_set_X6_isIn : GoodIn wsX6_set (va_wsS RX6 57 yX6_isIn wsX6_isIn) := goodIn_app (goodIn_of _ (by decide +kernel)) ggX6_set_X6_isIn
set_option maxRecDepth 20000 in
theorem ggX6_set_X6_becomes : GoodIn wsX6_set wsX6_becomes := goodIn_r _ [11, 12, 13, 14, 15, 16, 17, 18, 19, 20, 21, 22, 23, 24, 25, 26, 27, 28, 29, 30, 31, 32, 33, 34, 35, 36, 37, 38, 39] (by decide +kernel) (by decide +kernel)
set_option maxRecDepth 20000 in
theorem gX6_set_X6_becomes : GoodIn wsX6_set (wsV RX6 154 RX6 yX6_becomes wsX6_becomes) := goodIn_app (goodIn_of _ (by decide +kernel)) ggX6_set_X6_becomes
theorem dX6_set_0 : decode cX6_set 0 = .ok (.iload_n 1, 1) := by decide +kernel
theorem dX6_set_1 : decode cX6_set 1 = .ok (.i2l, 1) := by decide +kernel
theorem dX6_set_2 : decode cX6_set 2 = .ok (.lconst 0, 1) := by decide +kernel
theorem dX6_set_3 : decode cX6_set 3 = .ok (.ldc2_w 148, 3) := by decide +kernel
theorem dX6_set_6 : decode cX6_set 6 = .ok (.invokestatic 57, 3) := by decide +kernel
theorem dX6_set_9 : decode cX6_set 9 = .ok (.ifCond .eq 46, 3) := by decide +kernel
theorem dX6_set_12 : decode cX6_set 12 = .ok (.iload_n 2, 1) := by decide +kernel
theorem dX6_set_13 : decode cX6_set 13 = .ok (.i2l, 1) := by decide +kernel
theorem dX6_set_14 : decode cX6_set 14 = .ok (.iload_n 1, 1) := by decide +kernel
theorem dX6_set_15 : decode cX6_set 15 = .ok (.ifCond .ne 7, 3) := by decide +kernel
theorem dX6_set_18 : decode cX6_set 18 = .ok (.lconst 1, 1) := by decide +kernel
theorem dX6_set_19 : decode cX6_set 19 = .ok (.goto 4, 3) := by decide +kernel
theorem dX6_set_22 : decode cX6_set 22 = .ok (.lconst 0, 1) := by decide +kernel
theorem dX6_set_23 : decode cX6_set 23 = .ok (.iload_n 1, 1) := by decide +kernel
theorem dX6_set_24 : decode cX6_set 24 = .ok (.iconst 1, 1) := by decide +kernel
theorem dX6_set_25 : decode cX6_set 25 = .ok (.if_icmp .ne 9, 3) := by decide +kernel
theorem dX6_set_28 : decode cX6_set 28 = .ok (.ldc2_w 150, 3) := by decide +kernel
theorem dX6_set_31 : decode cX6_set 31 = .ok (.goto 6, 3) := by decide +kernel
theorem dX6_set_34 : decode cX6_set 34 = .ok (.ldc2_w 152, 3) := by decide +kernel
theorem dX6_set_37 : decode cX6_set 37 = .ok (.invokestatic 57, 3) := by decide +kernel
theorem dX6_set_40 : decode cX6_set 40 = .ok (.ifCond .eq 15, 3) := by decide +kernel
theorem dX6_set_43 : decode cX6_set 43 = .ok (.aload_n 0, 1) := by decide +kernel
theorem dX6_set_44 : decode cX6_set 44 = .ok (.bipush 6, 2) := by decide +kernel
theorem dX6_set_46 : decode cX6_set 46 = .ok (.iload_n 1, 1) := by decide +kernel
theorem dX6_set_47 : decode cX6_set 47 = .ok (.iadd, 1) := by decide +kernel
theorem dX6_set_48 : decode cX6_set 48 = .ok (.iload_n 2, 1) := by decide +kernel
theorem dX6_set_49 : decode cX6_set 49 = .ok (.invokevirtual 154, 3) := by decide +kernel
theorem dX6_set_52 : decode cX6_set 52 = .ok (.goto 4, 3) := by decide +kernel
theorem dX6_set_55 : decode cX6_set 55 = .ok (.iconst (-1), 1) := by decide +kernel
theorem dX6_set_56 : decode cX6_set 56 = .ok (.ireturn, 1) := by decide +kernel
set_option maxRecDepth 20000 in
theorem ggX6_lawOf_X6_isIn : GoodIn wsX6_lawOf wsX6_isIn := goodIn_r _ [6] (by decide +kernel) (by decide +kernel)
set_option maxRecDepth 20000 in
theorem gX6_lawOf_X6_isIn : GoodIn wsX6_lawOf (va_wsS RX6 57 yX6_isIn wsX6_isIn) := goodIn_app (goodIn_of _ (by decide +kernel)) ggX6_lawOf_X6_isIn
theorem dX6_lawOf_0 : decode cX6_lawOf 0 = .ok (.iload_n 1, 1) := by decide +kernel
theorem dX6_lawOf_1 : decode cX6_lawOf 1 = .ok (.i2l, 1) := by decide +kernel
theorem dX6_lawOf_2 : decode cX6_lawOf 2 = .ok (.lconst 0, 1) := by decide +kernel
theorem dX6_lawOf_3 : decode cX6_lawOf 3 = .ok (.ldc2_w 148, 3) := by decide +kernel
theorem dX6_lawOf_6 : decode cX6_lawOf 6 = .ok (.invokestatic 57, 3) := by decide +kernel
theorem dX6_lawOf_9 : decode cX6_lawOf 9 = .ok (.ifCond .eq 15, 3) := by decide +kernel
theorem dX6_lawOf_12 : decode cX6_lawOf 12 = .ok (.aload_n 0, 1) := by decide +kernel
theorem dX6_lawOf_13 : decode cX6_lawOf 13 = .ok (.getfield 7, 3) := by decide +kernel
theorem dX6_lawOf_16 : decode cX6_lawOf 16 = .ok (.bipush 6, 2) := by decide +kernel
theorem dX6_lawOf_18 : decode cX6_lawOf 18 = .ok (.iload_n 1, 1) := by decide +kernel
theorem dX6_lawOf_19 : decode cX6_lawOf 19 = .ok (.iadd, 1) := by decide +kernel
theorem dX6_lawOf_20 : decode cX6_lawOf 20 = .ok (.iaload, 1) := by decide +kernel
theorem dX6_lawOf_21 : decode cX6_lawOf 21 = .ok (.goto 4, 3) := by decide +kernel
theorem dX6_lawOf_24 : decode cX6_lawOf 24 = .ok (.iconst (-1), 1) := by decide +kernel
theorem dX6_lawOf_25 : decode cX6_lawOf 25 = .ok (.ireturn, 1) := by decide +kernel
theorem dX6_comes_0 : decode cX6_comes 0 = .ok (.bipush 10, 2) := by decide +kernel
theorem dX6_comes_2 : decode cX6_comes 2 = .ok (.iconst 5, 1) := by decide +kernel
theorem dX6_comes_3 : decode cX6_comes 3 = .ok (.aload_n 0, 1) := by decide +kernel
theorem dX6_comes_4 : decode cX6_comes 4 = .ok (.getfield 7, 3) := by decide +kernel
theorem dX6_comes_7 : decode cX6_comes 7 = .ok (.iconst 0, 1) := by decide +kernel
theorem dX6_comes_8 : decode cX6_comes 8 = .ok (.iaload, 1) := by decide +kernel
theorem dX6_comes_9 : decode cX6_comes 9 = .ok (.imul, 1) := by decide +kernel
theorem dX6_comes_10 : decode cX6_comes 10 = .ok (.iadd, 1) := by decide +kernel
theorem dX6_comes_11 : decode cX6_comes 11 = .ok (.istore 5, 2) := by decide +kernel
theorem dX6_comes_13 : decode cX6_comes 13 = .ok (.aload_n 0, 1) := by decide +kernel
theorem dX6_comes_14 : decode cX6_comes 14 = .ok (.getfield 7, 3) := by decide +kernel
theorem dX6_comes_17 : decode cX6_comes 17 = .ok (.iload 5, 2) := by decide +kernel
theorem dX6_comes_19 : decode cX6_comes 19 = .ok (.iload_n 1, 1) := by decide +kernel
theorem dX6_comes_20 : decode cX6_comes 20 = .ok (.iastore, 1) := by decide +kernel
theorem dX6_comes_21 : decode cX6_comes 21 = .ok (.aload_n 0, 1) := by decide +kernel
theorem dX6_comes_22 : decode cX6_comes 22 = .ok (.getfield 7, 3) := by decide +kernel
theorem dX6_comes_25 : decode cX6_comes 25 = .ok (.iload 5, 2) := by decide +kernel
theorem dX6_comes_27 : decode cX6_comes 27 = .ok (.iconst 1, 1) := by decide +kernel
theorem dX6_comes_28 : decode cX6_comes 28 = .ok (.iadd, 1) := by decide +kernel
theorem dX6_comes_29 : decode cX6_comes 29 = .ok (.iload_n 2, 1) := by decide +kernel
theorem dX6_comes_30 : decode cX6_comes 30 = .ok (.iastore, 1) := by decide +kernel
theorem dX6_comes_31 : decode cX6_comes 31 = .ok (.aload_n 0, 1) := by decide +kernel
theorem dX6_comes_32 : decode cX6_comes 32 = .ok (.getfield 7, 3) := by decide +kernel
theorem dX6_comes_35 : decode cX6_comes 35 = .ok (.iload 5, 2) := by decide +kernel
theorem dX6_comes_37 : decode cX6_comes 37 = .ok (.iconst 2, 1) := by decide +kernel
theorem dX6_comes_38 : decode cX6_comes 38 = .ok (.iadd, 1) := by decide +kernel
theorem dX6_comes_39 : decode cX6_comes 39 = .ok (.iload_n 3, 1) := by decide +kernel
theorem dX6_comes_40 : decode cX6_comes 40 = .ok (.iastore, 1) := by decide +kernel
theorem dX6_comes_41 : decode cX6_comes 41 = .ok (.aload_n 0, 1) := by decide +kernel
theorem dX6_comes_42 : decode cX6_comes 42 = .ok (.getfield 7, 3) := by decide +kernel
theorem dX6_comes_45 : decode cX6_comes 45 = .ok (.iload 5, 2) := by decide +kernel
theorem dX6_comes_47 : decode cX6_comes 47 = .ok (.iconst 3, 1) := by decide +kernel
theorem dX6_comes_48 : decode cX6_comes 48 = .ok (.iadd, 1) := by decide +kernel
theorem dX6_comes_49 : decode cX6_comes 49 = .ok (.iload 4, 2) := by decide +kernel
theorem dX6_comes_51 : decode cX6_comes 51 = .ok (.iastore, 1) := by decide +kernel
theorem dX6_comes_52 : decode cX6_comes 52 = .ok (.aload_n 0, 1) := by decide +kernel
theorem dX6_comes_53 : decode cX6_comes 53 = .ok (.getfield 7, 3) := by decide +kernel
theorem dX6_comes_56 : decode cX6_comes 56 = .ok (.iload 5, 2) := by decide +kernel
theorem dX6_comes_58 : decode cX6_comes 58 = .ok (.iconst 4, 1) := by decide +kernel
theorem dX6_comes_59 : decode cX6_comes 59 = .ok (.iadd, 1) := by decide +kernel
theorem dX6_comes_60 : decode cX6_comes 60 = .ok (.iconst 0, 1) := by decide +kernel
theorem dX6_comes_61 : decode cX6_comes 61 = .ok (.iastore, 1) := by decide +kernel
theorem dX6_comes_62 : decode cX6_comes 62 = .ok (.aload_n 0, 1) := by decide +kernel
theorem dX6_comes_63 : decode cX6_comes 63 = .ok (.getfield 7, 3) := by decide +kernel
theorem dX6_comes_66 : decode cX6_comes 66 = .ok (.iconst 0, 1) := by decide +kernel
theorem dX6_comes_67 : decode cX6_comes 67 = .ok (.dup2, 1) := by decide +kernel
theorem dX6_comes_68 : decode cX6_comes 68 = .ok (.iaload, 1) := by decide +kernel
theorem dX6_comes_69 : decode cX6_comes 69 = .ok (.iconst 1, 1) := by decide +kernel
theorem dX6_comes_70 : decode cX6_comes 70 = .ok (.iadd, 1) := by decide +kernel
theorem dX6_comes_71 : decode cX6_comes 71 = .ok (.iastore, 1) := by decide +kernel
theorem dX6_comes_72 : decode cX6_comes 72 = .ok (.return_, 1) := by decide +kernel
set_option maxRecDepth 20000 in
theorem ggX6_person_X6_isIn : GoodIn wsX6_person wsX6_isIn := goodIn_r _ [8] (by decide +kernel) (by decide +kernel)
set_option maxRecDepth 20000 in
theorem gX6_person_X6_isIn : GoodIn wsX6_person (va_wsS RX6 57 yX6_isIn wsX6_isIn) := goodIn_app (goodIn_of _ (by decide +kernel)) ggX6_person_X6_isIn
set_option maxRecDepth 20000 in
theorem ggX6_person_X6_isCorner : GoodIn wsX6_person wsX6_isCorner := goodIn_r _ [11] (by decide +kernel) (by decide +kernel)
set_option maxRecDepth 20000 in
theorem gX6_person_X6_isCorner : GoodIn wsX6_person (va_wsS RX6 160 yX6_isCorner wsX6_isCorner) := goodIn_app (goodIn_of _ (by decide +kernel)) ggX6_person_X6_isCorner
set_option maxRecDepth 20000 in
theorem ggX6_person_X6_comes : GoodIn wsX6_person wsX6_comes := goodIn_r _ [15, 4, 16, 17, 18, 19, 20, 21, 22, 23, 24, 25, 26, 27, 28, 29, 30, 31, 32, 33, 34, 35, 36, 37, 38, 39, 40, 41, 42] (by decide +kernel) (by decide +kernel)
set_option maxRecDepth 20000 in
theorem gX6_person_X6_comes : GoodIn wsX6_person (wsV RX6 119 RX6 yX6_comes wsX6_comes) := goodIn_app (goodIn_of _ (by decide +kernel)) ggX6_person_X6_comes
theorem dX6_person_0 : decode cX6_person 0 = .ok (.iload_n 1, 1) := by decide +kernel
theorem dX6_person_1 : decode cX6_person 1 = .ok (.i2l, 1) := by decide +kernel
theorem dX6_person_2 : decode cX6_person 2 = .ok (.lconst 0, 1) := by decide +kernel
theorem dX6_person_3 : decode cX6_person 3 = .ok (.ldc2_w 158, 3) := by decide +kernel
theorem dX6_person_6 : decode cX6_person 6 = .ok (.invokestatic 57, 3) := by decide +kernel
theorem dX6_person_9 : decode cX6_person 9 = .ok (.ifCond .eq 35, 3) := by decide +kernel
theorem dX6_person_12 : decode cX6_person 12 = .ok (.iload_n 2, 1) := by decide +kernel
theorem dX6_person_13 : decode cX6_person 13 = .ok (.i2l, 1) := by decide +kernel
theorem dX6_person_14 : decode cX6_person 14 = .ok (.lconst 1, 1) := by decide +kernel
theorem dX6_person_15 : decode cX6_person 15 = .ok (.ldc2_w 150, 3) := by decide +kernel
theorem dX6_person_18 : decode cX6_person 18 = .ok (.invokestatic 57, 3) := by decide +kernel
theorem dX6_person_21 : decode cX6_person 21 = .ok (.ifCond .eq 23, 3) := by decide +kernel
theorem dX6_person_24 : decode cX6_person 24 = .ok (.iload_n 3, 1) := by decide +kernel
theorem dX6_person_25 : decode cX6_person 25 = .ok (.i2l, 1) := by decide +kernel
theorem dX6_person_26 : decode cX6_person 26 = .ok (.lconst 0, 1) := by decide +kernel
theorem dX6_person_27 : decode cX6_person 27 = .ok (.ldc2_w 55, 3) := by decide +kernel
theorem dX6_person_30 : decode cX6_person 30 = .ok (.invokestatic 57, 3) := by decide +kernel
theorem dX6_person_33 : decode cX6_person 33 = .ok (.ifCond .eq 11, 3) := by decide +kernel
theorem dX6_person_36 : decode cX6_person 36 = .ok (.iload 4, 2) := by decide +kernel
theorem dX6_person_38 : decode cX6_person 38 = .ok (.invokestatic 160, 3) := by decide +kernel
theorem dX6_person_41 : decode cX6_person 41 = .ok (.ifCond .ne 5, 3) := by decide +kernel
theorem dX6_person_44 : decode cX6_person 44 = .ok (.iconst (-1), 1) := by decide +kernel
theorem dX6_person_45 : decode cX6_person 45 = .ok (.ireturn, 1) := by decide +kernel
theorem dX6_person_46 : decode cX6_person 46 = .ok (.aload_n 0, 1) := by decide +kernel
theorem dX6_person_47 : decode cX6_person 47 = .ok (.getfield 7, 3) := by decide +kernel
theorem dX6_person_50 : decode cX6_person 50 = .ok (.iconst 0, 1) := by decide +kernel
theorem dX6_person_51 : decode cX6_person 51 = .ok (.iaload, 1) := by decide +kernel
theorem dX6_person_52 : decode cX6_person 52 = .ok (.bipush 8, 2) := by decide +kernel
theorem dX6_person_54 : decode cX6_person 54 = .ok (.if_icmp .ne 6, 3) := by decide +kernel
theorem dX6_person_57 : decode cX6_person 57 = .ok (.bipush (-2), 2) := by decide +kernel
theorem dX6_person_59 : decode cX6_person 59 = .ok (.ireturn, 1) := by decide +kernel
theorem dX6_person_60 : decode cX6_person 60 = .ok (.aload_n 0, 1) := by decide +kernel
theorem dX6_person_61 : decode cX6_person 61 = .ok (.iload_n 1, 1) := by decide +kernel
theorem dX6_person_62 : decode cX6_person 62 = .ok (.iload_n 2, 1) := by decide +kernel
theorem dX6_person_63 : decode cX6_person 63 = .ok (.iload_n 3, 1) := by decide +kernel
theorem dX6_person_64 : decode cX6_person 64 = .ok (.iload 4, 2) := by decide +kernel
theorem dX6_person_66 : decode cX6_person 66 = .ok (.invokevirtual 119, 3) := by decide +kernel
theorem dX6_person_69 : decode cX6_person 69 = .ok (.aload_n 0, 1) := by decide +kernel
theorem dX6_person_70 : decode cX6_person 70 = .ok (.getfield 7, 3) := by decide +kernel
theorem dX6_person_73 : decode cX6_person 73 = .ok (.iconst 0, 1) := by decide +kernel
theorem dX6_person_74 : decode cX6_person 74 = .ok (.iaload, 1) := by decide +kernel
theorem dX6_person_75 : decode cX6_person 75 = .ok (.iconst 1, 1) := by decide +kernel
theorem dX6_person_76 : decode cX6_person 76 = .ok (.isub, 1) := by decide +kernel
theorem dX6_person_77 : decode cX6_person 77 = .ok (.ireturn, 1) := by decide +kernel
set_option maxRecDepth 20000 in
theorem ggX6_sounds_X6_its : GoodIn wsX6_sounds wsX6_its := goodIn_r _ [6, 1, 7, 8, 9, 10, 11, 12, 13, 14, 15, 16, 17, 18, 19, 20, 21, 22, 23, 24, 25, 26, 27, 28, 29, 30, 31, 32, 33] (by decide +kernel) (by decide +kernel)
set_option maxRecDepth 20000 in
theorem gX6_sounds_X6_its : GoodIn wsX6_sounds (wsV RX6 163 RX6 yX6_its wsX6_its) := goodIn_app (goodIn_of _ (by decide +kernel)) ggX6_sounds_X6_its
theorem dX6_sounds_0 : decode cX6_sounds 0 = .ok (.aload_n 0, 1) := by decide +kernel
theorem dX6_sounds_1 : decode cX6_sounds 1 = .ok (.iload_n 1, 1) := by decide +kernel
theorem dX6_sounds_2 : decode cX6_sounds 2 = .ok (.iconst 1, 1) := by decide +kernel
theorem dX6_sounds_3 : decode cX6_sounds 3 = .ok (.invokevirtual 163, 3) := by decide +kernel
theorem dX6_sounds_6 : decode cX6_sounds 6 = .ok (.istore_n 2, 1) := by decide +kernel
theorem dX6_sounds_7 : decode cX6_sounds 7 = .ok (.aload_n 0, 1) := by decide +kernel
theorem dX6_sounds_8 : decode cX6_sounds 8 = .ok (.getfield 7, 3) := by decide +kernel
theorem dX6_sounds_11 : decode cX6_sounds 11 = .ok (.iconst 1, 1) := by decide +kernel
theorem dX6_sounds_12 : decode cX6_sounds 12 = .ok (.iaload, 1) := by decide +kernel
theorem dX6_sounds_13 : decode cX6_sounds 13 = .ok (.aload_n 0, 1) := by decide +kernel
theorem dX6_sounds_14 : decode cX6_sounds 14 = .ok (.iload_n 1, 1) := by decide +kernel
theorem dX6_sounds_15 : decode cX6_sounds 15 = .ok (.iconst 2, 1) := by decide +kernel
theorem dX6_sounds_16 : decode cX6_sounds 16 = .ok (.invokevirtual 163, 3) := by decide +kernel
theorem dX6_sounds_19 : decode cX6_sounds 19 = .ok (.iadd, 1) := by decide +kernel
theorem dX6_sounds_20 : decode cX6_sounds 20 = .ok (.iload_n 2, 1) := by decide +kernel
theorem dX6_sounds_21 : decode cX6_sounds 21 = .ok (.irem, 1) := by decide +kernel
theorem dX6_sounds_22 : decode cX6_sounds 22 = .ok (.ifCond .ne 7, 3) := by decide +kernel
theorem dX6_sounds_25 : decode cX6_sounds 25 = .ok (.iconst 1, 1) := by decide +kernel
theorem dX6_sounds_26 : decode cX6_sounds 26 = .ok (.goto 4, 3) := by decide +kernel
theorem dX6_sounds_29 : decode cX6_sounds 29 = .ok (.iconst 0, 1) := by decide +kernel
theorem dX6_sounds_30 : decode cX6_sounds 30 = .ok (.istore_n 3, 1) := by decide +kernel
theorem dX6_sounds_31 : decode cX6_sounds 31 = .ok (.iload_n 3, 1) := by decide +kernel
theorem dX6_sounds_32 : decode cX6_sounds 32 = .ok (.ifCond .eq 23, 3) := by decide +kernel
theorem dX6_sounds_35 : decode cX6_sounds 35 = .ok (.aload_n 0, 1) := by decide +kernel
theorem dX6_sounds_36 : decode cX6_sounds 36 = .ok (.getfield 7, 3) := by decide +kernel
theorem dX6_sounds_39 : decode cX6_sounds 39 = .ok (.iconst 3, 1) := by decide +kernel
theorem dX6_sounds_40 : decode cX6_sounds 40 = .ok (.iaload, 1) := by decide +kernel
theorem dX6_sounds_41 : decode cX6_sounds 41 = .ok (.aload_n 0, 1) := by decide +kernel
theorem dX6_sounds_42 : decode cX6_sounds 42 = .ok (.getfield 7, 3) := by decide +kernel
theorem dX6_sounds_45 : decode cX6_sounds 45 = .ok (.bipush 7, 2) := by decide +kernel
theorem dX6_sounds_47 : decode cX6_sounds 47 = .ok (.iaload, 1) := by decide +kernel
theorem dX6_sounds_48 : decode cX6_sounds 48 = .ok (.if_icmp .lt 7, 3) := by decide +kernel
theorem dX6_sounds_51 : decode cX6_sounds 51 = .ok (.iconst 1, 1) := by decide +kernel
theorem dX6_sounds_52 : decode cX6_sounds 52 = .ok (.goto 4, 3) := by decide +kernel
theorem dX6_sounds_55 : decode cX6_sounds 55 = .ok (.iconst 0, 1) := by decide +kernel
theorem dX6_sounds_56 : decode cX6_sounds 56 = .ok (.istore 4, 2) := by decide +kernel
theorem dX6_sounds_58 : decode cX6_sounds 58 = .ok (.iload_n 3, 1) := by decide +kernel
theorem dX6_sounds_59 : decode cX6_sounds 59 = .ok (.ifCond .eq 18, 3) := by decide +kernel
theorem dX6_sounds_62 : decode cX6_sounds 62 = .ok (.aload_n 0, 1) := by decide +kernel
theorem dX6_sounds_63 : decode cX6_sounds 63 = .ok (.getfield 7, 3) := by decide +kernel
theorem dX6_sounds_66 : decode cX6_sounds 66 = .ok (.iconst 1, 1) := by decide +kernel
theorem dX6_sounds_67 : decode cX6_sounds 67 = .ok (.iaload, 1) := by decide +kernel
theorem dX6_sounds_68 : decode cX6_sounds 68 = .ok (.iconst 2, 1) := by decide +kernel
theorem dX6_sounds_69 : decode cX6_sounds 69 = .ok (.irem, 1) := by decide +kernel
theorem dX6_sounds_70 : decode cX6_sounds 70 = .ok (.ifCond .ne 7, 3) := by decide +kernel
theorem dX6_sounds_73 : decode cX6_sounds 73 = .ok (.iconst 1, 1) := by decide +kernel
theorem dX6_sounds_74 : decode cX6_sounds 74 = .ok (.goto 4, 3) := by decide +kernel
theorem dX6_sounds_77 : decode cX6_sounds 77 = .ok (.iconst 0, 1) := by decide +kernel
theorem dX6_sounds_78 : decode cX6_sounds 78 = .ok (.istore 5, 2) := by decide +kernel
theorem dX6_sounds_80 : decode cX6_sounds 80 = .ok (.aload_n 0, 1) := by decide +kernel
theorem dX6_sounds_81 : decode cX6_sounds 81 = .ok (.iload_n 1, 1) := by decide +kernel
theorem dX6_sounds_82 : decode cX6_sounds 82 = .ok (.iconst 0, 1) := by decide +kernel
theorem dX6_sounds_83 : decode cX6_sounds 83 = .ok (.invokevirtual 163, 3) := by decide +kernel
theorem dX6_sounds_86 : decode cX6_sounds 86 = .ok (.tableswitch 108 1 5 #[34, 37, 40, 63, 86], 34) := by decide +kernel
theorem dX6_sounds_120 : decode cX6_sounds 120 = .ok (.iload 4, 2) := by decide +kernel
theorem dX6_sounds_122 : decode cX6_sounds 122 = .ok (.ireturn, 1) := by decide +kernel
theorem dX6_sounds_123 : decode cX6_sounds 123 = .ok (.iload 5, 2) := by decide +kernel
theorem dX6_sounds_125 : decode cX6_sounds 125 = .ok (.ireturn, 1) := by decide +kernel
theorem dX6_sounds_126 : decode cX6_sounds 126 = .ok (.iload 4, 2) := by decide +kernel
theorem dX6_sounds_128 : decode cX6_sounds 128 = .ok (.ifCond .ne 15, 3) := by decide +kernel
theorem dX6_sounds_131 : decode cX6_sounds 131 = .ok (.aload_n 0, 1) := by decide +kernel
theorem dX6_sounds_132 : decode cX6_sounds 132 = .ok (.getfield 7, 3) := by decide +kernel
theorem dX6_sounds_135 : decode cX6_sounds 135 = .ok (.iconst 1, 1) := by decide +kernel
theorem dX6_sounds_136 : decode cX6_sounds 136 = .ok (.iaload, 1) := by decide +kernel
theorem dX6_sounds_137 : decode cX6_sounds 137 = .ok (.bipush 7, 2) := by decide +kernel
theorem dX6_sounds_139 : decode cX6_sounds 139 = .ok (.irem, 1) := by decide +kernel
theorem dX6_sounds_140 : decode cX6_sounds 140 = .ok (.ifCond .ne 7, 3) := by decide +kernel
theorem dX6_sounds_143 : decode cX6_sounds 143 = .ok (.iconst 1, 1) := by decide +kernel
theorem dX6_sounds_144 : decode cX6_sounds 144 = .ok (.goto 4, 3) := by decide +kernel
theorem dX6_sounds_147 : decode cX6_sounds 147 = .ok (.iconst 0, 1) := by decide +kernel
theorem dX6_sounds_148 : decode cX6_sounds 148 = .ok (.ireturn, 1) := by decide +kernel
theorem dX6_sounds_149 : decode cX6_sounds 149 = .ok (.iload 5, 2) := by decide +kernel
theorem dX6_sounds_151 : decode cX6_sounds 151 = .ok (.ifCond .ne 15, 3) := by decide +kernel
theorem dX6_sounds_154 : decode cX6_sounds 154 = .ok (.aload_n 0, 1) := by decide +kernel
theorem dX6_sounds_155 : decode cX6_sounds 155 = .ok (.getfield 7, 3) := by decide +kernel
theorem dX6_sounds_158 : decode cX6_sounds 158 = .ok (.iconst 3, 1) := by decide +kernel
theorem dX6_sounds_159 : decode cX6_sounds 159 = .ok (.iaload, 1) := by decide +kernel
theorem dX6_sounds_160 : decode cX6_sounds 160 = .ok (.iconst 2, 1) := by decide +kernel
theorem dX6_sounds_161 : decode cX6_sounds 161 = .ok (.iload_n 2, 1) := by decide +kernel
theorem dX6_sounds_162 : decode cX6_sounds 162 = .ok (.imul, 1) := by decide +kernel
theorem dX6_sounds_163 : decode cX6_sounds 163 = .ok (.if_icmp .ne 7, 3) := by decide +kernel
theorem dX6_sounds_166 : decode cX6_sounds 166 = .ok (.iconst 1, 1) := by decide +kernel
theorem dX6_sounds_167 : decode cX6_sounds 167 = .ok (.goto 4, 3) := by decide +kernel
theorem dX6_sounds_170 : decode cX6_sounds 170 = .ok (.iconst 0, 1) := by decide +kernel
theorem dX6_sounds_171 : decode cX6_sounds 171 = .ok (.ireturn, 1) := by decide +kernel
theorem dX6_sounds_172 : decode cX6_sounds 172 = .ok (.aload_n 0, 1) := by decide +kernel
theorem dX6_sounds_173 : decode cX6_sounds 173 = .ok (.getfield 7, 3) := by decide +kernel
theorem dX6_sounds_176 : decode cX6_sounds 176 = .ok (.iconst 3, 1) := by decide +kernel
theorem dX6_sounds_177 : decode cX6_sounds 177 = .ok (.iaload, 1) := by decide +kernel
theorem dX6_sounds_178 : decode cX6_sounds 178 = .ok (.aload_n 0, 1) := by decide +kernel
theorem dX6_sounds_179 : decode cX6_sounds 179 = .ok (.getfield 7, 3) := by decide +kernel
theorem dX6_sounds_182 : decode cX6_sounds 182 = .ok (.bipush 8, 2) := by decide +kernel
theorem dX6_sounds_184 : decode cX6_sounds 184 = .ok (.iaload, 1) := by decide +kernel
theorem dX6_sounds_185 : decode cX6_sounds 185 = .ok (.if_icmp .lt 7, 3) := by decide +kernel
theorem dX6_sounds_188 : decode cX6_sounds 188 = .ok (.iconst 1, 1) := by decide +kernel
theorem dX6_sounds_189 : decode cX6_sounds 189 = .ok (.goto 4, 3) := by decide +kernel
theorem dX6_sounds_192 : decode cX6_sounds 192 = .ok (.iconst 0, 1) := by decide +kernel
theorem dX6_sounds_193 : decode cX6_sounds 193 = .ok (.ireturn, 1) := by decide +kernel
theorem dX6_sounds_194 : decode cX6_sounds 194 = .ok (.iload_n 3, 1) := by decide +kernel
theorem dX6_sounds_195 : decode cX6_sounds 195 = .ok (.ireturn, 1) := by decide +kernel
set_option maxRecDepth 20000 in
theorem ggX6_reaches_X6_its : GoodIn wsX6_reaches wsX6_its := goodIn_r _ [6, 1, 7, 8, 9, 10, 11, 12, 13, 14, 15, 16, 17, 18, 19, 20, 21, 22, 23, 24, 25, 26, 27, 28, 29, 30, 31, 32, 33] (by decide +kernel) (by decide +kernel)
set_option maxRecDepth 20000 in
theorem gX6_reaches_X6_its : GoodIn wsX6_reaches (wsV RX6 163 RX6 yX6_its wsX6_its) := goodIn_app (goodIn_of _ (by decide +kernel)) ggX6_reaches_X6_its
theorem dX6_reaches_0 : decode cX6_reaches 0 = .ok (.aload_n 0, 1) := by decide +kernel
theorem dX6_reaches_1 : decode cX6_reaches 1 = .ok (.iload_n 1, 1) := by decide +kernel
theorem dX6_reaches_2 : decode cX6_reaches 2 = .ok (.iconst 0, 1) := by decide +kernel
theorem dX6_reaches_3 : decode cX6_reaches 3 = .ok (.invokevirtual 163, 3) := by decide +kernel
theorem dX6_reaches_6 : decode cX6_reaches 6 = .ok (.tableswitch 72 1 5 #[34, 44, 46, 58, 69], 34) := by decide +kernel
theorem dX6_reaches_40 : decode cX6_reaches 40 = .ok (.iconst 2, 1) := by decide +kernel
theorem dX6_reaches_41 : decode cX6_reaches 41 = .ok (.aload_n 0, 1) := by decide +kernel
theorem dX6_reaches_42 : decode cX6_reaches 42 = .ok (.getfield 7, 3) := by decide +kernel
theorem dX6_reaches_45 : decode cX6_reaches 45 = .ok (.bipush 7, 2) := by decide +kernel
theorem dX6_reaches_47 : decode cX6_reaches 47 = .ok (.iaload, 1) := by decide +kernel
theorem dX6_reaches_48 : decode cX6_reaches 48 = .ok (.iadd, 1) := by decide +kernel
theorem dX6_reaches_49 : decode cX6_reaches 49 = .ok (.ireturn, 1) := by decide +kernel
theorem dX6_reaches_50 : decode cX6_reaches 50 = .ok (.iconst 1, 1) := by decide +kernel
theorem dX6_reaches_51 : decode cX6_reaches 51 = .ok (.ireturn, 1) := by decide +kernel
theorem dX6_reaches_52 : decode cX6_reaches 52 = .ok (.iconst 2, 1) := by decide +kernel
theorem dX6_reaches_53 : decode cX6_reaches 53 = .ok (.iconst 2, 1) := by decide +kernel
theorem dX6_reaches_54 : decode cX6_reaches 54 = .ok (.aload_n 0, 1) := by decide +kernel
theorem dX6_reaches_55 : decode cX6_reaches 55 = .ok (.getfield 7, 3) := by decide +kernel
theorem dX6_reaches_58 : decode cX6_reaches 58 = .ok (.bipush 7, 2) := by decide +kernel
theorem dX6_reaches_60 : decode cX6_reaches 60 = .ok (.iaload, 1) := by decide +kernel
theorem dX6_reaches_61 : decode cX6_reaches 61 = .ok (.iadd, 1) := by decide +kernel
theorem dX6_reaches_62 : decode cX6_reaches 62 = .ok (.imul, 1) := by decide +kernel
theorem dX6_reaches_63 : decode cX6_reaches 63 = .ok (.ireturn, 1) := by decide +kernel
theorem dX6_reaches_64 : decode cX6_reaches 64 = .ok (.iconst 1, 1) := by decide +kernel
theorem dX6_reaches_65 : decode cX6_reaches 65 = .ok (.aload_n 0, 1) := by decide +kernel
theorem dX6_reaches_66 : decode cX6_reaches 66 = .ok (.iload_n 1, 1) := by decide +kernel
theorem dX6_reaches_67 : decode cX6_reaches 67 = .ok (.iconst 2, 1) := by decide +kernel
theorem dX6_reaches_68 : decode cX6_reaches 68 = .ok (.invokevirtual 163, 3) := by decide +kernel
theorem dX6_reaches_71 : decode cX6_reaches 71 = .ok (.iconst 3, 1) := by decide +kernel
theorem dX6_reaches_72 : decode cX6_reaches 72 = .ok (.idiv, 1) := by decide +kernel
theorem dX6_reaches_73 : decode cX6_reaches 73 = .ok (.iadd, 1) := by decide +kernel
theorem dX6_reaches_74 : decode cX6_reaches 74 = .ok (.ireturn, 1) := by decide +kernel
theorem dX6_reaches_75 : decode cX6_reaches 75 = .ok (.bipush 6, 2) := by decide +kernel
theorem dX6_reaches_77 : decode cX6_reaches 77 = .ok (.ireturn, 1) := by decide +kernel
theorem dX6_reaches_78 : decode cX6_reaches 78 = .ok (.iconst 2, 1) := by decide +kernel
theorem dX6_reaches_79 : decode cX6_reaches 79 = .ok (.ireturn, 1) := by decide +kernel
set_option maxRecDepth 20000 in
theorem ggX6_of_X6_isOne : GoodIn wsX6_of wsX6_isOne := goodIn_r _ [6, 7, 23, 24, 25, 26, 27, 28, 29, 30, 31, 32, 33, 34, 35, 36, 37, 38, 39, 40, 41, 42, 43, 44, 45, 46, 47, 48, 49] (by decide +kernel) (by decide +kernel)
set_option maxRecDepth 20000 in
theorem gX6_of_X6_isOne : GoodIn wsX6_of (wsV RX6 166 RX6 yX6_isOne wsX6_isOne) := goodIn_app (goodIn_of _ (by decide +kernel)) ggX6_of_X6_isOne
set_option maxRecDepth 20000 in
theorem ggX6_of_X6_isIn : GoodIn wsX6_of wsX6_isIn := goodIn_r _ [10] (by decide +kernel) (by decide +kernel)
set_option maxRecDepth 20000 in
theorem gX6_of_X6_isIn : GoodIn wsX6_of (va_wsS RX6 57 yX6_isIn wsX6_isIn) := goodIn_app (goodIn_of _ (by decide +kernel)) ggX6_of_X6_isIn
set_option maxRecDepth 20000 in
theorem ggX6_of_X6_its : GoodIn wsX6_of wsX6_its := goodIn_r _ [14, 7, 23, 24, 25, 26, 27, 28, 29, 30, 31, 32, 33, 34, 35, 36, 37, 38, 39, 40, 41, 42, 43, 44, 45, 46, 47, 48, 49] (by decide +kernel) (by decide +kernel)
set_option maxRecDepth 20000 in
theorem gX6_of_X6_its : GoodIn wsX6_of (wsV RX6 163 RX6 yX6_its wsX6_its) := goodIn_app (goodIn_of _ (by decide +kernel)) ggX6_of_X6_its
set_option maxRecDepth 20000 in
theorem ggX6_of_X6_reaches : GoodIn wsX6_of wsX6_reaches := goodIn_r _ [18, 7, 11, 12, 13, 5, 14, 23, 24, 25, 26, 27, 28, 29, 30, 31, 32, 33, 34, 35, 36, 37, 38, 39, 40, 41, 42, 43, 44, 45, 46, 47, 48, 49] (by decide +kernel) (by decide +kernel)
set_option maxRecDepth 20000 in
theorem gX6_of_X6_reaches : GoodIn wsX6_of (wsV RX6 171 RX6 yX6_reaches wsX6_reaches) := goodIn_app (goodIn_of _ (by decide +kernel)) ggX6_of_X6_reaches
set_option maxRecDepth 20000 in
theorem ggX6_of_X6_sounds : GoodIn wsX6_of wsX6_sounds := goodIn_r _ [22, 7, 11, 12, 13, 5, 14, 23, 24, 25, 26, 27, 28, 29, 30, 31, 32, 33, 34, 35, 36, 37, 38, 39, 40, 41, 42, 43, 44, 45, 46, 47, 48, 49] (by decide +kernel) (by decide +kernel)
set_option maxRecDepth 20000 in
theorem gX6_of_X6_sounds : GoodIn wsX6_of (wsV RX6 174 RX6 yX6_sounds wsX6_sounds) := goodIn_app (goodIn_of _ (by decide +kernel)) ggX6_of_X6_sounds
theorem dX6_of_0 : decode cX6_of 0 = .ok (.aload_n 0, 1) := by decide +kernel
theorem dX6_of_1 : decode cX6_of 1 = .ok (.iload_n 1, 1) := by decide +kernel
theorem dX6_of_2 : decode cX6_of 2 = .ok (.invokevirtual 166, 3) := by decide +kernel
theorem dX6_of_5 : decode cX6_of 5 = .ok (.ifCond .eq 15, 3) := by decide +kernel
theorem dX6_of_8 : decode cX6_of 8 = .ok (.iload_n 2, 1) := by decide +kernel
theorem dX6_of_9 : decode cX6_of 9 = .ok (.i2l, 1) := by decide +kernel
theorem dX6_of_10 : decode cX6_of 10 = .ok (.lconst 0, 1) := by decide +kernel
theorem dX6_of_11 : decode cX6_of 11 = .ok (.ldc2_w 169, 3) := by decide +kernel
theorem dX6_of_14 : decode cX6_of 14 = .ok (.invokestatic 57, 3) := by decide +kernel
theorem dX6_of_17 : decode cX6_of 17 = .ok (.ifCond .ne 5, 3) := by decide +kernel
theorem dX6_of_20 : decode cX6_of 20 = .ok (.iconst (-1), 1) := by decide +kernel
theorem dX6_of_21 : decode cX6_of 21 = .ok (.ireturn, 1) := by decide +kernel
theorem dX6_of_22 : decode cX6_of 22 = .ok (.iload_n 2, 1) := by decide +kernel
theorem dX6_of_23 : decode cX6_of 23 = .ok (.iconst 5, 1) := by decide +kernel
theorem dX6_of_24 : decode cX6_of 24 = .ok (.if_icmp .ge 12, 3) := by decide +kernel
theorem dX6_of_27 : decode cX6_of 27 = .ok (.aload_n 0, 1) := by decide +kernel
theorem dX6_of_28 : decode cX6_of 28 = .ok (.iload_n 1, 1) := by decide +kernel
theorem dX6_of_29 : decode cX6_of 29 = .ok (.iload_n 2, 1) := by decide +kernel
theorem dX6_of_30 : decode cX6_of 30 = .ok (.invokevirtual 163, 3) := by decide +kernel
theorem dX6_of_33 : decode cX6_of 33 = .ok (.goto 30, 3) := by decide +kernel
theorem dX6_of_36 : decode cX6_of 36 = .ok (.iload_n 2, 1) := by decide +kernel
theorem dX6_of_37 : decode cX6_of 37 = .ok (.bipush 6, 2) := by decide +kernel
theorem dX6_of_39 : decode cX6_of 39 = .ok (.if_icmp .ne 11, 3) := by decide +kernel
theorem dX6_of_42 : decode cX6_of 42 = .ok (.aload_n 0, 1) := by decide +kernel
theorem dX6_of_43 : decode cX6_of 43 = .ok (.iload_n 1, 1) := by decide +kernel
theorem dX6_of_44 : decode cX6_of 44 = .ok (.invokevirtual 171, 3) := by decide +kernel
theorem dX6_of_47 : decode cX6_of 47 = .ok (.goto 16, 3) := by decide +kernel
theorem dX6_of_50 : decode cX6_of 50 = .ok (.aload_n 0, 1) := by decide +kernel
theorem dX6_of_51 : decode cX6_of 51 = .ok (.iload_n 1, 1) := by decide +kernel
theorem dX6_of_52 : decode cX6_of 52 = .ok (.invokevirtual 174, 3) := by decide +kernel
theorem dX6_of_55 : decode cX6_of 55 = .ok (.ifCond .eq 7, 3) := by decide +kernel
theorem dX6_of_58 : decode cX6_of 58 = .ok (.iconst 1, 1) := by decide +kernel
theorem dX6_of_59 : decode cX6_of 59 = .ok (.goto 4, 3) := by decide +kernel
theorem dX6_of_62 : decode cX6_of 62 = .ok (.iconst 0, 1) := by decide +kernel
theorem dX6_of_63 : decode cX6_of 63 = .ok (.ireturn, 1) := by decide +kernel
set_option maxRecDepth 20000 in
theorem ggX6_mind_X6_isOne : GoodIn wsX6_mind wsX6_isOne := goodIn_r _ [6, 7, 15, 16, 17, 18, 19, 20, 21, 22, 23, 24, 25, 26, 27, 28, 29, 30, 31, 32, 33, 34, 35, 36, 37, 38, 39, 40, 41] (by decide +kernel) (by decide +kernel)
set_option maxRecDepth 20000 in
theorem gX6_mind_X6_isOne : GoodIn wsX6_mind (wsV RX6 166 RX6 yX6_isOne wsX6_isOne) := goodIn_app (goodIn_of _ (by decide +kernel)) ggX6_mind_X6_isOne
set_option maxRecDepth 20000 in
theorem ggX6_mind_X6_isIn : GoodIn wsX6_mind wsX6_isIn := goodIn_r _ [10] (by decide +kernel) (by decide +kernel)
set_option maxRecDepth 20000 in
theorem gX6_mind_X6_isIn : GoodIn wsX6_mind (va_wsS RX6 57 yX6_isIn wsX6_isIn) := goodIn_app (goodIn_of _ (by decide +kernel)) ggX6_mind_X6_isIn
set_option maxRecDepth 20000 in
theorem ggX6_mind_X6_becomes : GoodIn wsX6_mind wsX6_becomes := goodIn_r _ [14, 7, 15, 16, 17, 18, 19, 20, 21, 22, 23, 24, 25, 26, 27, 28, 29, 30, 31, 32, 33, 34, 35, 36, 37, 38, 39, 40, 41] (by decide +kernel) (by decide +kernel)
set_option maxRecDepth 20000 in
theorem gX6_mind_X6_becomes : GoodIn wsX6_mind (wsV RX6 154 RX6 yX6_becomes wsX6_becomes) := goodIn_app (goodIn_of _ (by decide +kernel)) ggX6_mind_X6_becomes
theorem dX6_mind_0 : decode cX6_mind 0 = .ok (.aload_n 0, 1) := by decide +kernel
theorem dX6_mind_1 : decode cX6_mind 1 = .ok (.iload_n 1, 1) := by decide +kernel
theorem dX6_mind_2 : decode cX6_mind 2 = .ok (.invokevirtual 166, 3) := by decide +kernel
theorem dX6_mind_5 : decode cX6_mind 5 = .ok (.ifCond .eq 29, 3) := by decide +kernel
theorem dX6_mind_8 : decode cX6_mind 8 = .ok (.iload_n 2, 1) := by decide +kernel
theorem dX6_mind_9 : decode cX6_mind 9 = .ok (.i2l, 1) := by decide +kernel
theorem dX6_mind_10 : decode cX6_mind 10 = .ok (.lconst 0, 1) := by decide +kernel
theorem dX6_mind_11 : decode cX6_mind 11 = .ok (.ldc2_w 158, 3) := by decide +kernel
theorem dX6_mind_14 : decode cX6_mind 14 = .ok (.invokestatic 57, 3) := by decide +kernel
theorem dX6_mind_17 : decode cX6_mind 17 = .ok (.ifCond .eq 17, 3) := by decide +kernel
theorem dX6_mind_20 : decode cX6_mind 20 = .ok (.aload_n 0, 1) := by decide +kernel
theorem dX6_mind_21 : decode cX6_mind 21 = .ok (.bipush 10, 2) := by decide +kernel
theorem dX6_mind_23 : decode cX6_mind 23 = .ok (.iconst 5, 1) := by decide +kernel
theorem dX6_mind_24 : decode cX6_mind 24 = .ok (.iload_n 1, 1) := by decide +kernel
theorem dX6_mind_25 : decode cX6_mind 25 = .ok (.imul, 1) := by decide +kernel
theorem dX6_mind_26 : decode cX6_mind 26 = .ok (.iadd, 1) := by decide +kernel
theorem dX6_mind_27 : decode cX6_mind 27 = .ok (.iload_n 2, 1) := by decide +kernel
theorem dX6_mind_28 : decode cX6_mind 28 = .ok (.invokevirtual 154, 3) := by decide +kernel
theorem dX6_mind_31 : decode cX6_mind 31 = .ok (.goto 4, 3) := by decide +kernel
theorem dX6_mind_34 : decode cX6_mind 34 = .ok (.iconst (-1), 1) := by decide +kernel
theorem dX6_mind_35 : decode cX6_mind 35 = .ok (.ireturn, 1) := by decide +kernel
set_option maxRecDepth 20000 in
theorem ggX6_change_X6_isOne : GoodIn wsX6_change wsX6_isOne := goodIn_r _ [7, 8, 16, 17, 18, 19, 20, 21, 22, 23, 24, 25, 26, 27, 28, 29, 30, 31, 32, 33, 34, 35, 36, 37, 38, 39, 40, 41, 42] (by decide +kernel) (by decide +kernel)
set_option maxRecDepth 20000 in
theorem gX6_change_X6_isOne : GoodIn wsX6_change (wsV RX6 166 RX6 yX6_isOne wsX6_isOne) := goodIn_app (goodIn_of _ (by decide +kernel)) ggX6_change_X6_isOne
set_option maxRecDepth 20000 in
theorem ggX6_change_X6_isIn : GoodIn wsX6_change wsX6_isIn := goodIn_r _ [11] (by decide +kernel) (by decide +kernel)
set_option maxRecDepth 20000 in
theorem gX6_change_X6_isIn : GoodIn wsX6_change (va_wsS RX6 57 yX6_isIn wsX6_isIn) := goodIn_app (goodIn_of _ (by decide +kernel)) ggX6_change_X6_isIn
set_option maxRecDepth 20000 in
theorem ggX6_change_X6_becomes : GoodIn wsX6_change wsX6_becomes := goodIn_r _ [15, 8, 16, 17, 18, 19, 20, 21, 22, 23, 24, 25, 26, 27, 28, 29, 30, 31, 32, 33, 34, 35, 36, 37, 38, 39, 40, 41, 42] (by decide +kernel) (by decide +kernel)
set_option maxRecDepth 20000 in
theorem gX6_change_X6_becomes : GoodIn wsX6_change (wsV RX6 154 RX6 yX6_becomes wsX6_becomes) := goodIn_app (goodIn_of _ (by decide +kernel)) ggX6_change_X6_becomes
theorem dX6_change_0 : decode cX6_change 0 = .ok (.aload_n 0, 1) := by decide +kernel
theorem dX6_change_1 : decode cX6_change 1 = .ok (.iload_n 1, 1) := by decide +kernel
theorem dX6_change_2 : decode cX6_change 2 = .ok (.invokevirtual 166, 3) := by decide +kernel
theorem dX6_change_5 : decode cX6_change 5 = .ok (.ifCond .eq 41, 3) := by decide +kernel
theorem dX6_change_8 : decode cX6_change 8 = .ok (.iload_n 2, 1) := by decide +kernel
theorem dX6_change_9 : decode cX6_change 9 = .ok (.iconst 1, 1) := by decide +kernel
theorem dX6_change_10 : decode cX6_change 10 = .ok (.if_icmp .ne 15, 3) := by decide +kernel
theorem dX6_change_13 : decode cX6_change 13 = .ok (.iload_n 3, 1) := by decide +kernel
theorem dX6_change_14 : decode cX6_change 14 = .ok (.i2l, 1) := by decide +kernel
theorem dX6_change_15 : decode cX6_change 15 = .ok (.lconst 1, 1) := by decide +kernel
theorem dX6_change_16 : decode cX6_change 16 = .ok (.ldc2_w 150, 3) := by decide +kernel
theorem dX6_change_19 : decode cX6_change 19 = .ok (.invokestatic 57, 3) := by decide +kernel
theorem dX6_change_22 : decode cX6_change 22 = .ok (.ifCond .ne 20, 3) := by decide +kernel
theorem dX6_change_25 : decode cX6_change 25 = .ok (.iload_n 2, 1) := by decide +kernel
theorem dX6_change_26 : decode cX6_change 26 = .ok (.iconst 2, 1) := by decide +kernel
theorem dX6_change_27 : decode cX6_change 27 = .ok (.if_icmp .ne 19, 3) := by decide +kernel
theorem dX6_change_30 : decode cX6_change 30 = .ok (.iload_n 3, 1) := by decide +kernel
theorem dX6_change_31 : decode cX6_change 31 = .ok (.i2l, 1) := by decide +kernel
theorem dX6_change_32 : decode cX6_change 32 = .ok (.lconst 0, 1) := by decide +kernel
theorem dX6_change_33 : decode cX6_change 33 = .ok (.ldc2_w 55, 3) := by decide +kernel
theorem dX6_change_36 : decode cX6_change 36 = .ok (.invokestatic 57, 3) := by decide +kernel
theorem dX6_change_39 : decode cX6_change 39 = .ok (.ifCond .eq 7, 3) := by decide +kernel
theorem dX6_change_42 : decode cX6_change 42 = .ok (.iconst 1, 1) := by decide +kernel
theorem dX6_change_43 : decode cX6_change 43 = .ok (.goto 4, 3) := by decide +kernel
theorem dX6_change_46 : decode cX6_change 46 = .ok (.iconst 0, 1) := by decide +kernel
theorem dX6_change_47 : decode cX6_change 47 = .ok (.istore 4, 2) := by decide +kernel
theorem dX6_change_49 : decode cX6_change 49 = .ok (.iload 4, 2) := by decide +kernel
theorem dX6_change_51 : decode cX6_change 51 = .ok (.ifCond .eq 19, 3) := by decide +kernel
theorem dX6_change_54 : decode cX6_change 54 = .ok (.aload_n 0, 1) := by decide +kernel
theorem dX6_change_55 : decode cX6_change 55 = .ok (.bipush 10, 2) := by decide +kernel
theorem dX6_change_57 : decode cX6_change 57 = .ok (.iconst 5, 1) := by decide +kernel
theorem dX6_change_58 : decode cX6_change 58 = .ok (.iload_n 1, 1) := by decide +kernel
theorem dX6_change_59 : decode cX6_change 59 = .ok (.imul, 1) := by decide +kernel
theorem dX6_change_60 : decode cX6_change 60 = .ok (.iadd, 1) := by decide +kernel
theorem dX6_change_61 : decode cX6_change 61 = .ok (.iload_n 2, 1) := by decide +kernel
theorem dX6_change_62 : decode cX6_change 62 = .ok (.iadd, 1) := by decide +kernel
theorem dX6_change_63 : decode cX6_change 63 = .ok (.iload_n 3, 1) := by decide +kernel
theorem dX6_change_64 : decode cX6_change 64 = .ok (.invokevirtual 154, 3) := by decide +kernel
theorem dX6_change_67 : decode cX6_change 67 = .ok (.goto 4, 3) := by decide +kernel
theorem dX6_change_70 : decode cX6_change 70 = .ok (.iconst (-1), 1) := by decide +kernel
theorem dX6_change_71 : decode cX6_change 71 = .ok (.ireturn, 1) := by decide +kernel
set_option maxRecDepth 20000 in
theorem ggX6_bring_X6_isOne : GoodIn wsX6_bring wsX6_isOne := goodIn_r _ [5, 6, 14, 15, 16, 17, 18, 19, 20, 21, 22, 23, 24, 25, 26, 27, 28, 29, 30, 31, 32, 33, 34, 35, 36, 37, 38, 39, 40] (by decide +kernel) (by decide +kernel)
set_option maxRecDepth 20000 in
theorem gX6_bring_X6_isOne : GoodIn wsX6_bring (wsV RX6 166 RX6 yX6_isOne wsX6_isOne) := goodIn_app (goodIn_of _ (by decide +kernel)) ggX6_bring_X6_isOne
set_option maxRecDepth 20000 in
theorem ggX6_bring_X6_isCorner : GoodIn wsX6_bring wsX6_isCorner := goodIn_r _ [9] (by decide +kernel) (by decide +kernel)
set_option maxRecDepth 20000 in
theorem gX6_bring_X6_isCorner : GoodIn wsX6_bring (va_wsS RX6 160 yX6_isCorner wsX6_isCorner) := goodIn_app (goodIn_of _ (by decide +kernel)) ggX6_bring_X6_isCorner
set_option maxRecDepth 20000 in
theorem ggX6_bring_X6_becomes : GoodIn wsX6_bring wsX6_becomes := goodIn_r _ [13, 6, 14, 15, 16, 17, 18, 19, 20, 21, 22, 23, 24, 25, 26, 27, 28, 29, 30, 31, 32, 33, 34, 35, 36, 37, 38, 39, 40] (by decide +kernel) (by decide +kernel)
set_option maxRecDepth 20000 in
theorem gX6_bring_X6_becomes : GoodIn wsX6_bring (wsV RX6 154 RX6 yX6_becomes wsX6_becomes) := goodIn_app (goodIn_of _ (by decide +kernel)) ggX6_bring_X6_becomes
theorem dX6_bring_0 : decode cX6_bring 0 = .ok (.aload_n 0, 1) := by decide +kernel
theorem dX6_bring_1 : decode cX6_bring 1 = .ok (.iload_n 1, 1) := by decide +kernel
theorem dX6_bring_2 : decode cX6_bring 2 = .ok (.invokevirtual 166, 3) := by decide +kernel
theorem dX6_bring_5 : decode cX6_bring 5 = .ok (.ifCond .eq 26, 3) := by decide +kernel
theorem dX6_bring_8 : decode cX6_bring 8 = .ok (.iload_n 2, 1) := by decide +kernel
theorem dX6_bring_9 : decode cX6_bring 9 = .ok (.invokestatic 160, 3) := by decide +kernel
theorem dX6_bring_12 : decode cX6_bring 12 = .ok (.ifCond .eq 19, 3) := by decide +kernel
theorem dX6_bring_15 : decode cX6_bring 15 = .ok (.aload_n 0, 1) := by decide +kernel
theorem dX6_bring_16 : decode cX6_bring 16 = .ok (.bipush 10, 2) := by decide +kernel
theorem dX6_bring_18 : decode cX6_bring 18 = .ok (.iconst 5, 1) := by decide +kernel
theorem dX6_bring_19 : decode cX6_bring 19 = .ok (.iload_n 1, 1) := by decide +kernel
theorem dX6_bring_20 : decode cX6_bring 20 = .ok (.imul, 1) := by decide +kernel
theorem dX6_bring_21 : decode cX6_bring 21 = .ok (.iadd, 1) := by decide +kernel
theorem dX6_bring_22 : decode cX6_bring 22 = .ok (.iconst 3, 1) := by decide +kernel
theorem dX6_bring_23 : decode cX6_bring 23 = .ok (.iadd, 1) := by decide +kernel
theorem dX6_bring_24 : decode cX6_bring 24 = .ok (.iload_n 2, 1) := by decide +kernel
theorem dX6_bring_25 : decode cX6_bring 25 = .ok (.invokevirtual 154, 3) := by decide +kernel
theorem dX6_bring_28 : decode cX6_bring 28 = .ok (.goto 4, 3) := by decide +kernel
theorem dX6_bring_31 : decode cX6_bring 31 = .ok (.iconst (-1), 1) := by decide +kernel
theorem dX6_bring_32 : decode cX6_bring 32 = .ok (.ireturn, 1) := by decide +kernel
set_option maxRecDepth 20000 in
theorem ggX6_stepsOff_X6_least : GoodIn wsX6_stepsOff wsX6_least := goodIn_r _ [4] (by decide +kernel) (by decide +kernel)
set_option maxRecDepth 20000 in
theorem gX6_stepsOff_X6_least : GoodIn wsX6_stepsOff (va_wsS RX6 177 yX6_least wsX6_least) := goodIn_app (goodIn_of _ (by decide +kernel)) ggX6_stepsOff_X6_least
theorem dX6_stepsOff_0 : decode cX6_stepsOff 0 = .ok (.iload_n 0, 1) := by decide +kernel
theorem dX6_stepsOff_1 : decode cX6_stepsOff 1 = .ok (.iload_n 1, 1) := by decide +kernel
theorem dX6_stepsOff_2 : decode cX6_stepsOff 2 = .ok (.if_icmp .ge 9, 3) := by decide +kernel
theorem dX6_stepsOff_5 : decode cX6_stepsOff 5 = .ok (.iload_n 1, 1) := by decide +kernel
theorem dX6_stepsOff_6 : decode cX6_stepsOff 6 = .ok (.iload_n 0, 1) := by decide +kernel
theorem dX6_stepsOff_7 : decode cX6_stepsOff 7 = .ok (.isub, 1) := by decide +kernel
theorem dX6_stepsOff_8 : decode cX6_stepsOff 8 = .ok (.goto 6, 3) := by decide +kernel
theorem dX6_stepsOff_11 : decode cX6_stepsOff 11 = .ok (.iload_n 0, 1) := by decide +kernel
theorem dX6_stepsOff_12 : decode cX6_stepsOff 12 = .ok (.iload_n 1, 1) := by decide +kernel
theorem dX6_stepsOff_13 : decode cX6_stepsOff 13 = .ok (.isub, 1) := by decide +kernel
theorem dX6_stepsOff_14 : decode cX6_stepsOff 14 = .ok (.istore_n 2, 1) := by decide +kernel
theorem dX6_stepsOff_15 : decode cX6_stepsOff 15 = .ok (.iload_n 2, 1) := by decide +kernel
theorem dX6_stepsOff_16 : decode cX6_stepsOff 16 = .ok (.bipush 12, 2) := by decide +kernel
theorem dX6_stepsOff_18 : decode cX6_stepsOff 18 = .ok (.iload_n 2, 1) := by decide +kernel
theorem dX6_stepsOff_19 : decode cX6_stepsOff 19 = .ok (.isub, 1) := by decide +kernel
theorem dX6_stepsOff_20 : decode cX6_stepsOff 20 = .ok (.invokestatic 177, 3) := by decide +kernel
theorem dX6_stepsOff_23 : decode cX6_stepsOff 23 = .ok (.ireturn, 1) := by decide +kernel
set_option maxRecDepth 20000 in
theorem ggX6_sounding_X6_sounds : GoodIn wsX6_sounding wsX6_sounds := goodIn_r _ [6, 1, 7, 8, 9, 5, 10, 11, 12, 13, 14, 15, 16, 17, 18, 19, 20, 21, 22, 23, 24, 25, 26, 27, 28, 29, 30, 31, 32, 33, 34, 35, 36, 37] (by decide +kernel) (by decide +kernel)
set_option maxRecDepth 20000 in
theorem gX6_sounding_X6_sounds : GoodIn wsX6_sounding (wsV RX6 174 RX6 yX6_sounds wsX6_sounds) := goodIn_app (goodIn_of _ (by decide +kernel)) ggX6_sounding_X6_sounds
theorem dX6_sounding_0 : decode cX6_sounding 0 = .ok (.iconst 0, 1) := by decide +kernel
theorem dX6_sounding_1 : decode cX6_sounding 1 = .ok (.istore_n 1, 1) := by decide +kernel
theorem dX6_sounding_2 : decode cX6_sounding 2 = .ok (.iconst 0, 1) := by decide +kernel
theorem dX6_sounding_3 : decode cX6_sounding 3 = .ok (.istore_n 2, 1) := by decide +kernel
theorem dX6_sounding_4 : decode cX6_sounding 4 = .ok (.iload_n 2, 1) := by decide +kernel
theorem dX6_sounding_5 : decode cX6_sounding 5 = .ok (.aload_n 0, 1) := by decide +kernel
theorem dX6_sounding_6 : decode cX6_sounding 6 = .ok (.getfield 7, 3) := by decide +kernel
theorem dX6_sounding_9 : decode cX6_sounding 9 = .ok (.iconst 0, 1) := by decide +kernel
theorem dX6_sounding_10 : decode cX6_sounding 10 = .ok (.iaload, 1) := by decide +kernel
theorem dX6_sounding_11 : decode cX6_sounding 11 = .ok (.if_icmp .ge 27, 3) := by decide +kernel
theorem dX6_sounding_14 : decode cX6_sounding 14 = .ok (.iload_n 1, 1) := by decide +kernel
theorem dX6_sounding_15 : decode cX6_sounding 15 = .ok (.aload_n 0, 1) := by decide +kernel
theorem dX6_sounding_16 : decode cX6_sounding 16 = .ok (.iload_n 2, 1) := by decide +kernel
theorem dX6_sounding_17 : decode cX6_sounding 17 = .ok (.invokevirtual 174, 3) := by decide +kernel
theorem dX6_sounding_20 : decode cX6_sounding 20 = .ok (.ifCond .eq 9, 3) := by decide +kernel
theorem dX6_sounding_23 : decode cX6_sounding 23 = .ok (.iconst 1, 1) := by decide +kernel
theorem dX6_sounding_24 : decode cX6_sounding 24 = .ok (.iload_n 2, 1) := by decide +kernel
theorem dX6_sounding_25 : decode cX6_sounding 25 = .ok (.ishl, 1) := by decide +kernel
theorem dX6_sounding_26 : decode cX6_sounding 26 = .ok (.goto 4, 3) := by decide +kernel
theorem dX6_sounding_29 : decode cX6_sounding 29 = .ok (.iconst 0, 1) := by decide +kernel
theorem dX6_sounding_30 : decode cX6_sounding 30 = .ok (.ior, 1) := by decide +kernel
theorem dX6_sounding_31 : decode cX6_sounding 31 = .ok (.istore_n 1, 1) := by decide +kernel
theorem dX6_sounding_32 : decode cX6_sounding 32 = .ok (.iinc 2 1, 3) := by decide +kernel
theorem dX6_sounding_35 : decode cX6_sounding 35 = .ok (.goto (-31), 3) := by decide +kernel
theorem dX6_sounding_38 : decode cX6_sounding 38 = .ok (.iload_n 1, 1) := by decide +kernel
theorem dX6_sounding_39 : decode cX6_sounding 39 = .ok (.ireturn, 1) := by decide +kernel
set_option maxRecDepth 20000 in
theorem ggX6_heardOf_X6_its : GoodIn wsX6_heardOf wsX6_its := goodIn_r _ [6, 1, 17, 18, 19, 20, 21, 22, 23, 24, 25, 26, 27, 28, 29, 30, 31, 32, 33, 34, 35, 36, 37, 38, 39, 40, 41, 42, 43] (by decide +kernel) (by decide +kernel)
set_option maxRecDepth 20000 in
theorem gX6_heardOf_X6_its : GoodIn wsX6_heardOf (wsV RX6 163 RX6 yX6_its wsX6_its) := goodIn_app (goodIn_of _ (by decide +kernel)) ggX6_heardOf_X6_its
set_option maxRecDepth 20000 in
theorem ggX6_heardOf_X6_stepsOff : GoodIn wsX6_heardOf wsX6_stepsOff := goodIn_r _ [9, 10, 11, 5, 12] (by decide +kernel) (by decide +kernel)
set_option maxRecDepth 20000 in
theorem gX6_heardOf_X6_stepsOff : GoodIn wsX6_heardOf (va_wsS RX6 180 yX6_stepsOff wsX6_stepsOff) := goodIn_app (goodIn_of _ (by decide +kernel)) ggX6_heardOf_X6_stepsOff
set_option maxRecDepth 20000 in
theorem ggX6_heardOf_X6_reaches : GoodIn wsX6_heardOf wsX6_reaches := goodIn_r _ [16, 1, 2, 3, 4, 5, 6, 17, 18, 19, 20, 21, 22, 23, 24, 25, 26, 27, 28, 29, 30, 31, 32, 33, 34, 35, 36, 37, 38, 39, 40, 41, 42, 43] (by decide +kernel) (by decide +kernel)
set_option maxRecDepth 20000 in
theorem gX6_heardOf_X6_reaches : GoodIn wsX6_heardOf (wsV RX6 171 RX6 yX6_reaches wsX6_reaches) := goodIn_app (goodIn_of _ (by decide +kernel)) ggX6_heardOf_X6_reaches
theorem dX6_heardOf_0 : decode cX6_heardOf 0 = .ok (.iconst 0, 1) := by decide +kernel
theorem dX6_heardOf_1 : decode cX6_heardOf 1 = .ok (.istore_n 3, 1) := by decide +kernel
theorem dX6_heardOf_2 : decode cX6_heardOf 2 = .ok (.iconst 0, 1) := by decide +kernel
theorem dX6_heardOf_3 : decode cX6_heardOf 3 = .ok (.istore 4, 2) := by decide +kernel
theorem dX6_heardOf_5 : decode cX6_heardOf 5 = .ok (.iload 4, 2) := by decide +kernel
theorem dX6_heardOf_7 : decode cX6_heardOf 7 = .ok (.aload_n 0, 1) := by decide +kernel
theorem dX6_heardOf_8 : decode cX6_heardOf 8 = .ok (.getfield 7, 3) := by decide +kernel
theorem dX6_heardOf_11 : decode cX6_heardOf 11 = .ok (.iconst 0, 1) := by decide +kernel
theorem dX6_heardOf_12 : decode cX6_heardOf 12 = .ok (.iaload, 1) := by decide +kernel
theorem dX6_heardOf_13 : decode cX6_heardOf 13 = .ok (.if_icmp .ge 50, 3) := by decide +kernel
theorem dX6_heardOf_16 : decode cX6_heardOf 16 = .ok (.iload_n 3, 1) := by decide +kernel
theorem dX6_heardOf_17 : decode cX6_heardOf 17 = .ok (.iload_n 1, 1) := by decide +kernel
theorem dX6_heardOf_18 : decode cX6_heardOf 18 = .ok (.iload 4, 2) := by decide +kernel
theorem dX6_heardOf_20 : decode cX6_heardOf 20 = .ok (.ishr, 1) := by decide +kernel
theorem dX6_heardOf_21 : decode cX6_heardOf 21 = .ok (.iconst 1, 1) := by decide +kernel
theorem dX6_heardOf_22 : decode cX6_heardOf 22 = .ok (.iand, 1) := by decide +kernel
theorem dX6_heardOf_23 : decode cX6_heardOf 23 = .ok (.iconst 1, 1) := by decide +kernel
theorem dX6_heardOf_24 : decode cX6_heardOf 24 = .ok (.if_icmp .ne 30, 3) := by decide +kernel
theorem dX6_heardOf_27 : decode cX6_heardOf 27 = .ok (.aload_n 0, 1) := by decide +kernel
theorem dX6_heardOf_28 : decode cX6_heardOf 28 = .ok (.iload 4, 2) := by decide +kernel
theorem dX6_heardOf_30 : decode cX6_heardOf 30 = .ok (.iconst 3, 1) := by decide +kernel
theorem dX6_heardOf_31 : decode cX6_heardOf 31 = .ok (.invokevirtual 163, 3) := by decide +kernel
theorem dX6_heardOf_34 : decode cX6_heardOf 34 = .ok (.iload_n 2, 1) := by decide +kernel
theorem dX6_heardOf_35 : decode cX6_heardOf 35 = .ok (.invokestatic 180, 3) := by decide +kernel
theorem dX6_heardOf_38 : decode cX6_heardOf 38 = .ok (.aload_n 0, 1) := by decide +kernel
theorem dX6_heardOf_39 : decode cX6_heardOf 39 = .ok (.iload 4, 2) := by decide +kernel
theorem dX6_heardOf_41 : decode cX6_heardOf 41 = .ok (.invokevirtual 171, 3) := by decide +kernel
theorem dX6_heardOf_44 : decode cX6_heardOf 44 = .ok (.if_icmp .gt 10, 3) := by decide +kernel
theorem dX6_heardOf_47 : decode cX6_heardOf 47 = .ok (.iconst 1, 1) := by decide +kernel
theorem dX6_heardOf_48 : decode cX6_heardOf 48 = .ok (.iload 4, 2) := by decide +kernel
theorem dX6_heardOf_50 : decode cX6_heardOf 50 = .ok (.ishl, 1) := by decide +kernel
theorem dX6_heardOf_51 : decode cX6_heardOf 51 = .ok (.goto 4, 3) := by decide +kernel
theorem dX6_heardOf_54 : decode cX6_heardOf 54 = .ok (.iconst 0, 1) := by decide +kernel
theorem dX6_heardOf_55 : decode cX6_heardOf 55 = .ok (.ior, 1) := by decide +kernel
theorem dX6_heardOf_56 : decode cX6_heardOf 56 = .ok (.istore_n 3, 1) := by decide +kernel
theorem dX6_heardOf_57 : decode cX6_heardOf 57 = .ok (.iinc 4 1, 3) := by decide +kernel
theorem dX6_heardOf_60 : decode cX6_heardOf 60 = .ok (.goto (-55), 3) := by decide +kernel
theorem dX6_heardOf_63 : decode cX6_heardOf 63 = .ok (.iload_n 3, 1) := by decide +kernel
theorem dX6_heardOf_64 : decode cX6_heardOf 64 = .ok (.ireturn, 1) := by decide +kernel
set_option maxRecDepth 20000 in
theorem ggX6_thoseAt_X6_its : GoodIn wsX6_thoseAt wsX6_its := goodIn_r _ [6, 1, 7, 8, 9, 10, 11, 12, 13, 14, 15, 16, 17, 18, 19, 20, 21, 22, 23, 24, 25, 26, 27, 28, 29, 30, 31, 32, 33] (by decide +kernel) (by decide +kernel)
set_option maxRecDepth 20000 in
theorem gX6_thoseAt_X6_its : GoodIn wsX6_thoseAt (wsV RX6 163 RX6 yX6_its wsX6_its) := goodIn_app (goodIn_of _ (by decide +kernel)) ggX6_thoseAt_X6_its
theorem dX6_thoseAt_0 : decode cX6_thoseAt 0 = .ok (.iconst 0, 1) := by decide +kernel
theorem dX6_thoseAt_1 : decode cX6_thoseAt 1 = .ok (.istore_n 2, 1) := by decide +kernel
theorem dX6_thoseAt_2 : decode cX6_thoseAt 2 = .ok (.iconst 0, 1) := by decide +kernel
theorem dX6_thoseAt_3 : decode cX6_thoseAt 3 = .ok (.istore_n 3, 1) := by decide +kernel
theorem dX6_thoseAt_4 : decode cX6_thoseAt 4 = .ok (.iload_n 3, 1) := by decide +kernel
theorem dX6_thoseAt_5 : decode cX6_thoseAt 5 = .ok (.aload_n 0, 1) := by decide +kernel
theorem dX6_thoseAt_6 : decode cX6_thoseAt 6 = .ok (.getfield 7, 3) := by decide +kernel
theorem dX6_thoseAt_9 : decode cX6_thoseAt 9 = .ok (.iconst 0, 1) := by decide +kernel
theorem dX6_thoseAt_10 : decode cX6_thoseAt 10 = .ok (.iaload, 1) := by decide +kernel
theorem dX6_thoseAt_11 : decode cX6_thoseAt 11 = .ok (.if_icmp .ge 29, 3) := by decide +kernel
theorem dX6_thoseAt_14 : decode cX6_thoseAt 14 = .ok (.iload_n 2, 1) := by decide +kernel
theorem dX6_thoseAt_15 : decode cX6_thoseAt 15 = .ok (.aload_n 0, 1) := by decide +kernel
theorem dX6_thoseAt_16 : decode cX6_thoseAt 16 = .ok (.iload_n 3, 1) := by decide +kernel
theorem dX6_thoseAt_17 : decode cX6_thoseAt 17 = .ok (.iconst 3, 1) := by decide +kernel
theorem dX6_thoseAt_18 : decode cX6_thoseAt 18 = .ok (.invokevirtual 163, 3) := by decide +kernel
theorem dX6_thoseAt_21 : decode cX6_thoseAt 21 = .ok (.iload_n 1, 1) := by decide +kernel
theorem dX6_thoseAt_22 : decode cX6_thoseAt 22 = .ok (.if_icmp .ne 9, 3) := by decide +kernel
theorem dX6_thoseAt_25 : decode cX6_thoseAt 25 = .ok (.iconst 1, 1) := by decide +kernel
theorem dX6_thoseAt_26 : decode cX6_thoseAt 26 = .ok (.iload_n 3, 1) := by decide +kernel
theorem dX6_thoseAt_27 : decode cX6_thoseAt 27 = .ok (.ishl, 1) := by decide +kernel
theorem dX6_thoseAt_28 : decode cX6_thoseAt 28 = .ok (.goto 4, 3) := by decide +kernel
theorem dX6_thoseAt_31 : decode cX6_thoseAt 31 = .ok (.iconst 0, 1) := by decide +kernel
theorem dX6_thoseAt_32 : decode cX6_thoseAt 32 = .ok (.ior, 1) := by decide +kernel
theorem dX6_thoseAt_33 : decode cX6_thoseAt 33 = .ok (.istore_n 2, 1) := by decide +kernel
theorem dX6_thoseAt_34 : decode cX6_thoseAt 34 = .ok (.iinc 3 1, 3) := by decide +kernel
theorem dX6_thoseAt_37 : decode cX6_thoseAt 37 = .ok (.goto (-33), 3) := by decide +kernel
theorem dX6_thoseAt_40 : decode cX6_thoseAt 40 = .ok (.iload_n 2, 1) := by decide +kernel
theorem dX6_thoseAt_41 : decode cX6_thoseAt 41 = .ok (.ireturn, 1) := by decide +kernel
set_option maxRecDepth 20000 in
theorem ggX6_corner_X6_isCorner : GoodIn wsX6_corner wsX6_isCorner := goodIn_r _ [4] (by decide +kernel) (by decide +kernel)
set_option maxRecDepth 20000 in
theorem gX6_corner_X6_isCorner : GoodIn wsX6_corner (va_wsS RX6 160 yX6_isCorner wsX6_isCorner) := goodIn_app (goodIn_of _ (by decide +kernel)) ggX6_corner_X6_isCorner
set_option maxRecDepth 20000 in
theorem ggX6_corner_X6_isIn : GoodIn wsX6_corner wsX6_isIn := goodIn_r _ [7] (by decide +kernel) (by decide +kernel)
set_option maxRecDepth 20000 in
theorem gX6_corner_X6_isIn : GoodIn wsX6_corner (va_wsS RX6 57 yX6_isIn wsX6_isIn) := goodIn_app (goodIn_of _ (by decide +kernel)) ggX6_corner_X6_isIn
set_option maxRecDepth 20000 in
theorem ggX6_corner_X6_thoseAt : GoodIn wsX6_corner wsX6_thoseAt := goodIn_r _ [11, 12, 13, 14, 15, 3, 16, 39, 40, 41, 42, 43, 44, 45, 46, 47, 48, 49, 50, 51, 52, 53, 54, 55, 56, 57, 58, 59, 60, 61, 62, 63, 64, 65] (by decide +kernel) (by decide +kernel)
set_option maxRecDepth 20000 in
theorem gX6_corner_X6_thoseAt : GoodIn wsX6_corner (wsV RX6 183 RX6 yX6_thoseAt wsX6_thoseAt) := goodIn_app (goodIn_of _ (by decide +kernel)) ggX6_corner_X6_thoseAt
set_option maxRecDepth 20000 in
theorem ggX6_corner_X6_sounding : GoodIn wsX6_corner wsX6_sounding := goodIn_r _ [20, 12, 21, 22, 23, 3, 24, 13, 14, 15, 16, 39, 40, 41, 42, 43, 44, 45, 46, 47, 48, 49, 50, 51, 52, 53, 54, 55, 56, 57, 58, 59, 60, 61, 62, 63, 64, 65] (by decide +kernel) (by decide +kernel)
set_option maxRecDepth 20000 in
theorem gX6_corner_X6_sounding : GoodIn wsX6_corner (wsV RX6 186 RX6 yX6_sounding wsX6_sounding) := goodIn_app (goodIn_of _ (by decide +kernel)) ggX6_corner_X6_sounding
set_option maxRecDepth 20000 in
theorem ggX6_corner_X6_heardOf : GoodIn wsX6_corner wsX6_heardOf := goodIn_r _ [28, 12, 13, 14, 15, 3, 16, 29, 30, 31, 32, 33, 34, 35, 36, 37, 38, 39, 40, 41, 42, 43, 44, 45, 46, 47, 48, 49, 50, 51, 52, 53, 54, 55, 56, 57, 58, 59, 60, 61, 62, 63, 64, 65] (by decide +kernel) (by decide +kernel)
set_option maxRecDepth 20000 in
theorem gX6_corner_X6_heardOf : GoodIn wsX6_corner (wsV RX6 189 RX6 yX6_heardOf wsX6_heardOf) := goodIn_app (goodIn_of _ (by decide +kernel)) ggX6_corner_X6_heardOf
theorem dX6_corner_0 : decode cX6_corner 0 = .ok (.iload_n 1, 1) := by decide +kernel
theorem dX6_corner_1 : decode cX6_corner 1 = .ok (.invokestatic 160, 3) := by decide +kernel
theorem dX6_corner_4 : decode cX6_corner 4 = .ok (.ifCond .eq 13, 3) := by decide +kernel
theorem dX6_corner_7 : decode cX6_corner 7 = .ok (.iload_n 2, 1) := by decide +kernel
theorem dX6_corner_8 : decode cX6_corner 8 = .ok (.i2l, 1) := by decide +kernel
theorem dX6_corner_9 : decode cX6_corner 9 = .ok (.lconst 0, 1) := by decide +kernel
theorem dX6_corner_10 : decode cX6_corner 10 = .ok (.lconst 1, 1) := by decide +kernel
theorem dX6_corner_11 : decode cX6_corner 11 = .ok (.invokestatic 57, 3) := by decide +kernel
theorem dX6_corner_14 : decode cX6_corner 14 = .ok (.ifCond .ne 5, 3) := by decide +kernel
theorem dX6_corner_17 : decode cX6_corner 17 = .ok (.iconst (-1), 1) := by decide +kernel
theorem dX6_corner_18 : decode cX6_corner 18 = .ok (.ireturn, 1) := by decide +kernel
theorem dX6_corner_19 : decode cX6_corner 19 = .ok (.iload_n 2, 1) := by decide +kernel
theorem dX6_corner_20 : decode cX6_corner 20 = .ok (.ifCond .ne 11, 3) := by decide +kernel
theorem dX6_corner_23 : decode cX6_corner 23 = .ok (.aload_n 0, 1) := by decide +kernel
theorem dX6_corner_24 : decode cX6_corner 24 = .ok (.iload_n 1, 1) := by decide +kernel
theorem dX6_corner_25 : decode cX6_corner 25 = .ok (.invokevirtual 183, 3) := by decide +kernel
theorem dX6_corner_28 : decode cX6_corner 28 = .ok (.goto 12, 3) := by decide +kernel
theorem dX6_corner_31 : decode cX6_corner 31 = .ok (.aload_n 0, 1) := by decide +kernel
theorem dX6_corner_32 : decode cX6_corner 32 = .ok (.aload_n 0, 1) := by decide +kernel
theorem dX6_corner_33 : decode cX6_corner 33 = .ok (.invokevirtual 186, 3) := by decide +kernel
theorem dX6_corner_36 : decode cX6_corner 36 = .ok (.iload_n 1, 1) := by decide +kernel
theorem dX6_corner_37 : decode cX6_corner 37 = .ok (.invokevirtual 189, 3) := by decide +kernel
theorem dX6_corner_40 : decode cX6_corner 40 = .ok (.ireturn, 1) := by decide +kernel
set_option maxRecDepth 20000 in
theorem ggX6_goesBy_X6_its : GoodIn wsX6_goesBy wsX6_its := goodIn_r _ [6, 1, 27, 28, 29, 30, 31, 32, 33, 34, 35, 36, 37, 38, 39, 40, 41, 42, 43, 44, 45, 46, 47, 48, 49, 50, 51, 52, 53] (by decide +kernel) (by decide +kernel)
set_option maxRecDepth 20000 in
theorem gX6_goesBy_X6_its : GoodIn wsX6_goesBy (wsV RX6 163 RX6 yX6_its wsX6_its) := goodIn_app (goodIn_of _ (by decide +kernel)) ggX6_goesBy_X6_its
set_option maxRecDepth 20000 in
theorem ggX6_goesBy_X6_heardOf : GoodIn wsX6_goesBy wsX6_heardOf := goodIn_r _ [10, 1, 2, 3, 4, 5, 6, 11, 12, 13, 14, 15, 16, 17, 18, 19, 20, 27, 28, 29, 30, 31, 32, 33, 34, 35, 36, 37, 38, 39, 40, 41, 42, 43, 44, 45, 46, 47, 48, 49, 50, 51, 52, 53] (by decide +kernel) (by decide +kernel)
set_option maxRecDepth 20000 in
theorem gX6_goesBy_X6_heardOf : GoodIn wsX6_goesBy (wsV RX6 189 RX6 yX6_heardOf wsX6_heardOf) := goodIn_app (goodIn_of _ (by decide +kernel)) ggX6_goesBy_X6_heardOf
set_option maxRecDepth 20000 in
theorem ggX6_goesBy_X6_size : GoodIn wsX6_goesBy wsX6_size := goodIn_r _ [23] (by decide +kernel) (by decide +kernel)
set_option maxRecDepth 20000 in
theorem gX6_goesBy_X6_size : GoodIn wsX6_goesBy (va_wsS RX6 192 yX6_size wsX6_size) := goodIn_app (goodIn_of _ (by decide +kernel)) ggX6_goesBy_X6_size
set_option maxRecDepth 20000 in
theorem ggX6_goesBy_X6_least : GoodIn wsX6_goesBy wsX6_least := goodIn_r _ [16] (by decide +kernel) (by decide +kernel)
set_option maxRecDepth 20000 in
theorem gX6_goesBy_X6_least : GoodIn wsX6_goesBy (va_wsS RX6 177 yX6_least wsX6_least) := goodIn_app (goodIn_of _ (by decide +kernel)) ggX6_goesBy_X6_least
set_option maxRecDepth 20000 in
theorem ggX6_goesBy_X6_greatest : GoodIn wsX6_goesBy wsX6_greatest := goodIn_r _ [26] (by decide +kernel) (by decide +kernel)
set_option maxRecDepth 20000 in
theorem gX6_goesBy_X6_greatest : GoodIn wsX6_goesBy (va_wsS RX6 195 yX6_greatest wsX6_greatest) := goodIn_app (goodIn_of _ (by decide +kernel)) ggX6_goesBy_X6_greatest
theorem dX6_goesBy_0 : decode cX6_goesBy 0 = .ok (.iconst 0, 1) := by decide +kernel
theorem dX6_goesBy_1 : decode cX6_goesBy 1 = .ok (.istore_n 2, 1) := by decide +kernel
theorem dX6_goesBy_2 : decode cX6_goesBy 2 = .ok (.iload_n 2, 1) := by decide +kernel
theorem dX6_goesBy_3 : decode cX6_goesBy 3 = .ok (.aload_n 0, 1) := by decide +kernel
theorem dX6_goesBy_4 : decode cX6_goesBy 4 = .ok (.getfield 7, 3) := by decide +kernel
theorem dX6_goesBy_7 : decode cX6_goesBy 7 = .ok (.iconst 0, 1) := by decide +kernel
theorem dX6_goesBy_8 : decode cX6_goesBy 8 = .ok (.iaload, 1) := by decide +kernel
theorem dX6_goesBy_9 : decode cX6_goesBy 9 = .ok (.if_icmp .ge 57, 3) := by decide +kernel
theorem dX6_goesBy_12 : decode cX6_goesBy 12 = .ok (.aload_n 0, 1) := by decide +kernel
theorem dX6_goesBy_13 : decode cX6_goesBy 13 = .ok (.iload_n 1, 1) := by decide +kernel
theorem dX6_goesBy_14 : decode cX6_goesBy 14 = .ok (.aload_n 0, 1) := by decide +kernel
theorem dX6_goesBy_15 : decode cX6_goesBy 15 = .ok (.iload_n 2, 1) := by decide +kernel
theorem dX6_goesBy_16 : decode cX6_goesBy 16 = .ok (.iconst 3, 1) := by decide +kernel
theorem dX6_goesBy_17 : decode cX6_goesBy 17 = .ok (.invokevirtual 163, 3) := by decide +kernel
theorem dX6_goesBy_20 : decode cX6_goesBy 20 = .ok (.invokevirtual 189, 3) := by decide +kernel
theorem dX6_goesBy_23 : decode cX6_goesBy 23 = .ok (.iconst 1, 1) := by decide +kernel
theorem dX6_goesBy_24 : decode cX6_goesBy 24 = .ok (.iload_n 2, 1) := by decide +kernel
theorem dX6_goesBy_25 : decode cX6_goesBy 25 = .ok (.ishl, 1) := by decide +kernel
theorem dX6_goesBy_26 : decode cX6_goesBy 26 = .ok (.iconst (-1), 1) := by decide +kernel
theorem dX6_goesBy_27 : decode cX6_goesBy 27 = .ok (.ixor, 1) := by decide +kernel
theorem dX6_goesBy_28 : decode cX6_goesBy 28 = .ok (.iand, 1) := by decide +kernel
theorem dX6_goesBy_29 : decode cX6_goesBy 29 = .ok (.invokestatic 192, 3) := by decide +kernel
theorem dX6_goesBy_32 : decode cX6_goesBy 32 = .ok (.istore_n 3, 1) := by decide +kernel
theorem dX6_goesBy_33 : decode cX6_goesBy 33 = .ok (.aload_n 0, 1) := by decide +kernel
theorem dX6_goesBy_34 : decode cX6_goesBy 34 = .ok (.getfield 7, 3) := by decide +kernel
theorem dX6_goesBy_37 : decode cX6_goesBy 37 = .ok (.bipush 10, 2) := by decide +kernel
theorem dX6_goesBy_39 : decode cX6_goesBy 39 = .ok (.iconst 5, 1) := by decide +kernel
theorem dX6_goesBy_40 : decode cX6_goesBy 40 = .ok (.iload_n 2, 1) := by decide +kernel
theorem dX6_goesBy_41 : decode cX6_goesBy 41 = .ok (.imul, 1) := by decide +kernel
theorem dX6_goesBy_42 : decode cX6_goesBy 42 = .ok (.iadd, 1) := by decide +kernel
theorem dX6_goesBy_43 : decode cX6_goesBy 43 = .ok (.iconst 4, 1) := by decide +kernel
theorem dX6_goesBy_44 : decode cX6_goesBy 44 = .ok (.iadd, 1) := by decide +kernel
theorem dX6_goesBy_45 : decode cX6_goesBy 45 = .ok (.sipush 9999, 3) := by decide +kernel
theorem dX6_goesBy_48 : decode cX6_goesBy 48 = .ok (.aload_n 0, 1) := by decide +kernel
theorem dX6_goesBy_49 : decode cX6_goesBy 49 = .ok (.iload_n 2, 1) := by decide +kernel
theorem dX6_goesBy_50 : decode cX6_goesBy 50 = .ok (.iconst 4, 1) := by decide +kernel
theorem dX6_goesBy_51 : decode cX6_goesBy 51 = .ok (.invokevirtual 163, 3) := by decide +kernel
theorem dX6_goesBy_54 : decode cX6_goesBy 54 = .ok (.iload_n 3, 1) := by decide +kernel
theorem dX6_goesBy_55 : decode cX6_goesBy 55 = .ok (.iadd, 1) := by decide +kernel
theorem dX6_goesBy_56 : decode cX6_goesBy 56 = .ok (.invokestatic 177, 3) := by decide +kernel
theorem dX6_goesBy_59 : decode cX6_goesBy 59 = .ok (.iastore, 1) := by decide +kernel
theorem dX6_goesBy_60 : decode cX6_goesBy 60 = .ok (.iinc 2 1, 3) := by decide +kernel
theorem dX6_goesBy_63 : decode cX6_goesBy 63 = .ok (.goto (-61), 3) := by decide +kernel
theorem dX6_goesBy_66 : decode cX6_goesBy 66 = .ok (.aload_n 0, 1) := by decide +kernel
theorem dX6_goesBy_67 : decode cX6_goesBy 67 = .ok (.getfield 7, 3) := by decide +kernel
theorem dX6_goesBy_70 : decode cX6_goesBy 70 = .ok (.iconst 3, 1) := by decide +kernel
theorem dX6_goesBy_71 : decode cX6_goesBy 71 = .ok (.iload_n 1, 1) := by decide +kernel
theorem dX6_goesBy_72 : decode cX6_goesBy 72 = .ok (.ifCond .ne 20, 3) := by decide +kernel
theorem dX6_goesBy_75 : decode cX6_goesBy 75 = .ok (.sipush 9999, 3) := by decide +kernel
theorem dX6_goesBy_78 : decode cX6_goesBy 78 = .ok (.aload_n 0, 1) := by decide +kernel
theorem dX6_goesBy_79 : decode cX6_goesBy 79 = .ok (.getfield 7, 3) := by decide +kernel
theorem dX6_goesBy_82 : decode cX6_goesBy 82 = .ok (.iconst 3, 1) := by decide +kernel
theorem dX6_goesBy_83 : decode cX6_goesBy 83 = .ok (.iaload, 1) := by decide +kernel
theorem dX6_goesBy_84 : decode cX6_goesBy 84 = .ok (.iconst 1, 1) := by decide +kernel
theorem dX6_goesBy_85 : decode cX6_goesBy 85 = .ok (.iadd, 1) := by decide +kernel
theorem dX6_goesBy_86 : decode cX6_goesBy 86 = .ok (.invokestatic 177, 3) := by decide +kernel
theorem dX6_goesBy_89 : decode cX6_goesBy 89 = .ok (.goto 4, 3) := by decide +kernel
theorem dX6_goesBy_92 : decode cX6_goesBy 92 = .ok (.iconst 0, 1) := by decide +kernel
theorem dX6_goesBy_93 : decode cX6_goesBy 93 = .ok (.iastore, 1) := by decide +kernel
theorem dX6_goesBy_94 : decode cX6_goesBy 94 = .ok (.aload_n 0, 1) := by decide +kernel
theorem dX6_goesBy_95 : decode cX6_goesBy 95 = .ok (.getfield 7, 3) := by decide +kernel
theorem dX6_goesBy_98 : decode cX6_goesBy 98 = .ok (.iconst 4, 1) := by decide +kernel
theorem dX6_goesBy_99 : decode cX6_goesBy 99 = .ok (.aload_n 0, 1) := by decide +kernel
theorem dX6_goesBy_100 : decode cX6_goesBy 100 = .ok (.getfield 7, 3) := by decide +kernel
theorem dX6_goesBy_103 : decode cX6_goesBy 103 = .ok (.iconst 4, 1) := by decide +kernel
theorem dX6_goesBy_104 : decode cX6_goesBy 104 = .ok (.iaload, 1) := by decide +kernel
theorem dX6_goesBy_105 : decode cX6_goesBy 105 = .ok (.aload_n 0, 1) := by decide +kernel
theorem dX6_goesBy_106 : decode cX6_goesBy 106 = .ok (.getfield 7, 3) := by decide +kernel
theorem dX6_goesBy_109 : decode cX6_goesBy 109 = .ok (.iconst 3, 1) := by decide +kernel
theorem dX6_goesBy_110 : decode cX6_goesBy 110 = .ok (.iaload, 1) := by decide +kernel
theorem dX6_goesBy_111 : decode cX6_goesBy 111 = .ok (.invokestatic 195, 3) := by decide +kernel
theorem dX6_goesBy_114 : decode cX6_goesBy 114 = .ok (.iastore, 1) := by decide +kernel
theorem dX6_goesBy_115 : decode cX6_goesBy 115 = .ok (.aload_n 0, 1) := by decide +kernel
theorem dX6_goesBy_116 : decode cX6_goesBy 116 = .ok (.getfield 7, 3) := by decide +kernel
theorem dX6_goesBy_119 : decode cX6_goesBy 119 = .ok (.iconst 5, 1) := by decide +kernel
theorem dX6_goesBy_120 : decode cX6_goesBy 120 = .ok (.aload_n 0, 1) := by decide +kernel
theorem dX6_goesBy_121 : decode cX6_goesBy 121 = .ok (.getfield 7, 3) := by decide +kernel
theorem dX6_goesBy_124 : decode cX6_goesBy 124 = .ok (.iconst 3, 1) := by decide +kernel
theorem dX6_goesBy_125 : decode cX6_goesBy 125 = .ok (.iaload, 1) := by decide +kernel
theorem dX6_goesBy_126 : decode cX6_goesBy 126 = .ok (.aload_n 0, 1) := by decide +kernel
theorem dX6_goesBy_127 : decode cX6_goesBy 127 = .ok (.getfield 7, 3) := by decide +kernel
theorem dX6_goesBy_130 : decode cX6_goesBy 130 = .ok (.bipush 6, 2) := by decide +kernel
theorem dX6_goesBy_132 : decode cX6_goesBy 132 = .ok (.iaload, 1) := by decide +kernel
theorem dX6_goesBy_133 : decode cX6_goesBy 133 = .ok (.if_icmp .lt 7, 3) := by decide +kernel
theorem dX6_goesBy_136 : decode cX6_goesBy 136 = .ok (.iconst 1, 1) := by decide +kernel
theorem dX6_goesBy_137 : decode cX6_goesBy 137 = .ok (.goto 9, 3) := by decide +kernel
theorem dX6_goesBy_140 : decode cX6_goesBy 140 = .ok (.aload_n 0, 1) := by decide +kernel
theorem dX6_goesBy_141 : decode cX6_goesBy 141 = .ok (.getfield 7, 3) := by decide +kernel
theorem dX6_goesBy_144 : decode cX6_goesBy 144 = .ok (.iconst 5, 1) := by decide +kernel
theorem dX6_goesBy_145 : decode cX6_goesBy 145 = .ok (.iaload, 1) := by decide +kernel
theorem dX6_goesBy_146 : decode cX6_goesBy 146 = .ok (.iastore, 1) := by decide +kernel
theorem dX6_goesBy_147 : decode cX6_goesBy 147 = .ok (.aload_n 0, 1) := by decide +kernel
theorem dX6_goesBy_148 : decode cX6_goesBy 148 = .ok (.getfield 7, 3) := by decide +kernel
theorem dX6_goesBy_151 : decode cX6_goesBy 151 = .ok (.iconst 1, 1) := by decide +kernel
theorem dX6_goesBy_152 : decode cX6_goesBy 152 = .ok (.dup2, 1) := by decide +kernel
theorem dX6_goesBy_153 : decode cX6_goesBy 153 = .ok (.iaload, 1) := by decide +kernel
theorem dX6_goesBy_154 : decode cX6_goesBy 154 = .ok (.iconst 1, 1) := by decide +kernel
theorem dX6_goesBy_155 : decode cX6_goesBy 155 = .ok (.iadd, 1) := by decide +kernel
theorem dX6_goesBy_156 : decode cX6_goesBy 156 = .ok (.iastore, 1) := by decide +kernel
theorem dX6_goesBy_157 : decode cX6_goesBy 157 = .ok (.return_, 1) := by decide +kernel
set_option maxRecDepth 20000 in
theorem ggX6_goes_X6_sounding : GoodIn wsX6_goes wsX6_sounding := goodIn_r _ [5, 6, 7, 8, 9, 4, 10, 11, 12, 13, 14, 39, 40, 41, 42, 43, 44, 45, 46, 47, 48, 49, 50, 51, 52, 53, 54, 55, 56, 57, 58, 59, 60, 61, 62, 63, 64, 65] (by decide +kernel) (by decide +kernel)
set_option maxRecDepth 20000 in
theorem gX6_goes_X6_sounding : GoodIn wsX6_goes (wsV RX6 186 RX6 yX6_sounding wsX6_sounding) := goodIn_app (goodIn_of _ (by decide +kernel)) ggX6_goes_X6_sounding
set_option maxRecDepth 20000 in
theorem ggX6_goes_X6_goesBy : GoodIn wsX6_goes wsX6_goesBy := goodIn_r _ [18, 6, 11, 12, 13, 4, 14, 19, 20, 21, 22, 23, 24, 25, 26, 27, 28, 29, 30, 31, 32, 33, 34, 35, 36, 37, 38, 39, 40, 41, 42, 43, 44, 45, 46, 47, 48, 49, 50, 51, 52, 53, 54, 55, 56, 57, 58, 59, 60, 61, 62, 63, 64, 65] (by decide +kernel) (by decide +kernel)
set_option maxRecDepth 20000 in
theorem gX6_goes_X6_goesBy : GoodIn wsX6_goes (wsV RX6 198 RX6 yX6_goesBy wsX6_goesBy) := goodIn_app (goodIn_of _ (by decide +kernel)) ggX6_goes_X6_goesBy
theorem dX6_goes_0 : decode cX6_goes 0 = .ok (.iconst 0, 1) := by decide +kernel
theorem dX6_goes_1 : decode cX6_goes 1 = .ok (.istore_n 3, 1) := by decide +kernel
theorem dX6_goes_2 : decode cX6_goes 2 = .ok (.iload_n 3, 1) := by decide +kernel
theorem dX6_goes_3 : decode cX6_goes 3 = .ok (.iload_n 1, 1) := by decide +kernel
theorem dX6_goes_4 : decode cX6_goes 4 = .ok (.if_icmp .ge 21, 3) := by decide +kernel
theorem dX6_goes_7 : decode cX6_goes 7 = .ok (.aload_n 0, 1) := by decide +kernel
theorem dX6_goes_8 : decode cX6_goes 8 = .ok (.aload_n 0, 1) := by decide +kernel
theorem dX6_goes_9 : decode cX6_goes 9 = .ok (.invokevirtual 186, 3) := by decide +kernel
theorem dX6_goes_12 : decode cX6_goes 12 = .ok (.iload_n 2, 1) := by decide +kernel
theorem dX6_goes_13 : decode cX6_goes 13 = .ok (.iconst (-1), 1) := by decide +kernel
theorem dX6_goes_14 : decode cX6_goes 14 = .ok (.ixor, 1) := by decide +kernel
theorem dX6_goes_15 : decode cX6_goes 15 = .ok (.iand, 1) := by decide +kernel
theorem dX6_goes_16 : decode cX6_goes 16 = .ok (.invokevirtual 198, 3) := by decide +kernel
theorem dX6_goes_19 : decode cX6_goes 19 = .ok (.iinc 3 1, 3) := by decide +kernel
theorem dX6_goes_22 : decode cX6_goes 22 = .ok (.goto (-20), 3) := by decide +kernel
theorem dX6_goes_25 : decode cX6_goes 25 = .ok (.return_, 1) := by decide +kernel
set_option maxRecDepth 20000 in
theorem ggX6_seconds_X6_isIn : GoodIn wsX6_seconds wsX6_isIn := goodIn_r _ [6] (by decide +kernel) (by decide +kernel)
set_option maxRecDepth 20000 in
theorem gX6_seconds_X6_isIn : GoodIn wsX6_seconds (va_wsS RX6 57 yX6_isIn wsX6_isIn) := goodIn_app (goodIn_of _ (by decide +kernel)) ggX6_seconds_X6_isIn
set_option maxRecDepth 20000 in
theorem ggX6_seconds_X6_goes : GoodIn wsX6_seconds wsX6_goes := goodIn_r _ [10, 11, 12, 13, 5, 14, 2, 15, 16, 17, 18, 19, 20, 21, 22, 23, 24, 25, 26, 27, 28, 29, 30, 31, 32, 33, 34, 35, 36, 37, 38, 39, 40, 41, 42, 43, 44, 45, 46, 47, 48, 49, 50, 51, 52, 53, 54, 55, 56, 57, 58, 59, 60, 61, 62, 63, 64, 65, 66, 67, 68, 69, 70, 71, 72, 73] (by decide +kernel) (by decide +kernel)
set_option maxRecDepth 20000 in
theorem gX6_seconds_X6_goes : GoodIn wsX6_seconds (wsV RX6 203 RX6 yX6_goes wsX6_goes) := goodIn_app (goodIn_of _ (by decide +kernel)) ggX6_seconds_X6_goes
theorem dX6_seconds_0 : decode cX6_seconds 0 = .ok (.iload_n 1, 1) := by decide +kernel
theorem dX6_seconds_1 : decode cX6_seconds 1 = .ok (.i2l, 1) := by decide +kernel
theorem dX6_seconds_2 : decode cX6_seconds 2 = .ok (.lconst 1, 1) := by decide +kernel
theorem dX6_seconds_3 : decode cX6_seconds 3 = .ok (.ldc2_w 201, 3) := by decide +kernel
theorem dX6_seconds_6 : decode cX6_seconds 6 = .ok (.invokestatic 57, 3) := by decide +kernel
theorem dX6_seconds_9 : decode cX6_seconds 9 = .ok (.ifCond .ne 5, 3) := by decide +kernel
theorem dX6_seconds_12 : decode cX6_seconds 12 = .ok (.iconst (-1), 1) := by decide +kernel
theorem dX6_seconds_13 : decode cX6_seconds 13 = .ok (.ireturn, 1) := by decide +kernel
theorem dX6_seconds_14 : decode cX6_seconds 14 = .ok (.aload_n 0, 1) := by decide +kernel
theorem dX6_seconds_15 : decode cX6_seconds 15 = .ok (.iload_n 1, 1) := by decide +kernel
theorem dX6_seconds_16 : decode cX6_seconds 16 = .ok (.iconst 0, 1) := by decide +kernel
theorem dX6_seconds_17 : decode cX6_seconds 17 = .ok (.invokevirtual 203, 3) := by decide +kernel
theorem dX6_seconds_20 : decode cX6_seconds 20 = .ok (.aload_n 0, 1) := by decide +kernel
theorem dX6_seconds_21 : decode cX6_seconds 21 = .ok (.getfield 7, 3) := by decide +kernel
theorem dX6_seconds_24 : decode cX6_seconds 24 = .ok (.iconst 3, 1) := by decide +kernel
theorem dX6_seconds_25 : decode cX6_seconds 25 = .ok (.iaload, 1) := by decide +kernel
theorem dX6_seconds_26 : decode cX6_seconds 26 = .ok (.ireturn, 1) := by decide +kernel
set_option maxRecDepth 20000 in
theorem ggX6_seed_X6_becomes : GoodIn wsX6_seed wsX6_becomes := goodIn_r _ [5, 6, 7, 8, 9, 10, 11, 12, 13, 14, 15, 16, 17, 18, 19, 20, 21, 22, 23, 24, 25, 26, 27, 28, 29, 30, 31, 32, 33] (by decide +kernel) (by decide +kernel)
set_option maxRecDepth 20000 in
theorem gX6_seed_X6_becomes : GoodIn wsX6_seed (wsV RX6 154 RX6 yX6_becomes wsX6_becomes) := goodIn_app (goodIn_of _ (by decide +kernel)) ggX6_seed_X6_becomes
theorem dX6_seed_0 : decode cX6_seed 0 = .ok (.aload_n 0, 1) := by decide +kernel
theorem dX6_seed_1 : decode cX6_seed 1 = .ok (.iconst 2, 1) := by decide +kernel
theorem dX6_seed_2 : decode cX6_seed 2 = .ok (.iload_n 1, 1) := by decide +kernel
theorem dX6_seed_3 : decode cX6_seed 3 = .ok (.invokevirtual 154, 3) := by decide +kernel
theorem dX6_seed_6 : decode cX6_seed 6 = .ok (.ireturn, 1) := by decide +kernel
theorem dX6_drawn_0 : decode cX6_drawn 0 = .ok (.aload_n 0, 1) := by decide +kernel
theorem dX6_drawn_1 : decode cX6_drawn 1 = .ok (.getfield 7, 3) := by decide +kernel
theorem dX6_drawn_4 : decode cX6_drawn 4 = .ok (.iconst 2, 1) := by decide +kernel
theorem dX6_drawn_5 : decode cX6_drawn 5 = .ok (.aload_n 0, 1) := by decide +kernel
theorem dX6_drawn_6 : decode cX6_drawn 6 = .ok (.getfield 7, 3) := by decide +kernel
theorem dX6_drawn_9 : decode cX6_drawn 9 = .ok (.iconst 2, 1) := by decide +kernel
theorem dX6_drawn_10 : decode cX6_drawn 10 = .ok (.iaload, 1) := by decide +kernel
theorem dX6_drawn_11 : decode cX6_drawn 11 = .ok (.ldc 207, 2) := by decide +kernel
theorem dX6_drawn_13 : decode cX6_drawn 13 = .ok (.imul, 1) := by decide +kernel
theorem dX6_drawn_14 : decode cX6_drawn 14 = .ok (.sipush 12345, 3) := by decide +kernel
theorem dX6_drawn_17 : decode cX6_drawn 17 = .ok (.iadd, 1) := by decide +kernel
theorem dX6_drawn_18 : decode cX6_drawn 18 = .ok (.iastore, 1) := by decide +kernel
theorem dX6_drawn_19 : decode cX6_drawn 19 = .ok (.aload_n 0, 1) := by decide +kernel
theorem dX6_drawn_20 : decode cX6_drawn 20 = .ok (.getfield 7, 3) := by decide +kernel
theorem dX6_drawn_23 : decode cX6_drawn 23 = .ok (.iconst 2, 1) := by decide +kernel
theorem dX6_drawn_24 : decode cX6_drawn 24 = .ok (.iaload, 1) := by decide +kernel
theorem dX6_drawn_25 : decode cX6_drawn 25 = .ok (.bipush 16, 2) := by decide +kernel
theorem dX6_drawn_27 : decode cX6_drawn 27 = .ok (.iushr, 1) := by decide +kernel
theorem dX6_drawn_28 : decode cX6_drawn 28 = .ok (.ireturn, 1) := by decide +kernel
set_option maxRecDepth 20000 in
theorem ggX6_second_X6_sounding : GoodIn wsX6_second wsX6_sounding := goodIn_r _ [6, 1, 7, 8, 9, 5, 10, 11, 12, 13, 14, 44, 45, 46, 47, 48, 49, 50, 51, 52, 53, 54, 55, 56, 57, 58, 59, 60, 61, 62, 63, 64, 65, 66, 67, 68, 69, 70] (by decide +kernel) (by decide +kernel)
set_option maxRecDepth 20000 in
theorem gX6_second_X6_sounding : GoodIn wsX6_second (wsV RX6 186 RX6 yX6_sounding wsX6_sounding) := goodIn_app (goodIn_of _ (by decide +kernel)) ggX6_second_X6_sounding
set_option maxRecDepth 20000 in
theorem ggX6_second_X6_drawn : GoodIn wsX6_second wsX6_drawn := goodIn_r _ [18, 1, 19, 44, 45, 46, 47, 48, 49, 50, 51, 52, 53, 54, 55, 56, 57, 58, 59, 60, 61, 62, 63, 64, 65, 66, 67, 68, 69, 70] (by decide +kernel) (by decide +kernel)
set_option maxRecDepth 20000 in
theorem gX6_second_X6_drawn : GoodIn wsX6_second (wsV RX6 208 RX6 yX6_drawn wsX6_drawn) := goodIn_app (goodIn_of _ (by decide +kernel)) ggX6_second_X6_drawn
set_option maxRecDepth 20000 in
theorem ggX6_second_X6_goesBy : GoodIn wsX6_second wsX6_goesBy := goodIn_r _ [23, 1, 11, 12, 13, 5, 14, 24, 25, 26, 27, 28, 29, 30, 31, 32, 33, 34, 35, 36, 37, 38, 39, 40, 41, 42, 43, 44, 45, 46, 47, 48, 49, 50, 51, 52, 53, 54, 55, 56, 57, 58, 59, 60, 61, 62, 63, 64, 65, 66, 67, 68, 69, 70] (by decide +kernel) (by decide +kernel)
set_option maxRecDepth 20000 in
theorem gX6_second_X6_goesBy : GoodIn wsX6_second (wsV RX6 198 RX6 yX6_goesBy wsX6_goesBy) := goodIn_app (goodIn_of _ (by decide +kernel)) ggX6_second_X6_goesBy
theorem dX6_second_0 : decode cX6_second 0 = .ok (.aload_n 0, 1) := by decide +kernel
theorem dX6_second_1 : decode cX6_second 1 = .ok (.invokevirtual 186, 3) := by decide +kernel
theorem dX6_second_4 : decode cX6_second 4 = .ok (.istore_n 1, 1) := by decide +kernel
theorem dX6_second_5 : decode cX6_second 5 = .ok (.aload_n 0, 1) := by decide +kernel
theorem dX6_second_6 : decode cX6_second 6 = .ok (.getfield 7, 3) := by decide +kernel
theorem dX6_second_9 : decode cX6_second 9 = .ok (.iconst 0, 1) := by decide +kernel
theorem dX6_second_10 : decode cX6_second 10 = .ok (.iaload, 1) := by decide +kernel
theorem dX6_second_11 : decode cX6_second 11 = .ok (.ifCond .le 42, 3) := by decide +kernel
theorem dX6_second_14 : decode cX6_second 14 = .ok (.aload_n 0, 1) := by decide +kernel
theorem dX6_second_15 : decode cX6_second 15 = .ok (.invokevirtual 208, 3) := by decide +kernel
theorem dX6_second_18 : decode cX6_second 18 = .ok (.aload_n 0, 1) := by decide +kernel
theorem dX6_second_19 : decode cX6_second 19 = .ok (.getfield 7, 3) := by decide +kernel
theorem dX6_second_22 : decode cX6_second 22 = .ok (.iconst 0, 1) := by decide +kernel
theorem dX6_second_23 : decode cX6_second 23 = .ok (.iaload, 1) := by decide +kernel
theorem dX6_second_24 : decode cX6_second 24 = .ok (.irem, 1) := by decide +kernel
theorem dX6_second_25 : decode cX6_second 25 = .ok (.istore_n 2, 1) := by decide +kernel
theorem dX6_second_26 : decode cX6_second 26 = .ok (.iload_n 1, 1) := by decide +kernel
theorem dX6_second_27 : decode cX6_second 27 = .ok (.aload_n 0, 1) := by decide +kernel
theorem dX6_second_28 : decode cX6_second 28 = .ok (.invokevirtual 208, 3) := by decide +kernel
theorem dX6_second_31 : decode cX6_second 31 = .ok (.bipush 100, 2) := by decide +kernel
theorem dX6_second_33 : decode cX6_second 33 = .ok (.irem, 1) := by decide +kernel
theorem dX6_second_34 : decode cX6_second 34 = .ok (.aload_n 0, 1) := by decide +kernel
theorem dX6_second_35 : decode cX6_second 35 = .ok (.getfield 7, 3) := by decide +kernel
theorem dX6_second_38 : decode cX6_second 38 = .ok (.bipush 9, 2) := by decide +kernel
theorem dX6_second_40 : decode cX6_second 40 = .ok (.iaload, 1) := by decide +kernel
theorem dX6_second_41 : decode cX6_second 41 = .ok (.if_icmp .ge 9, 3) := by decide +kernel
theorem dX6_second_44 : decode cX6_second 44 = .ok (.iconst 1, 1) := by decide +kernel
theorem dX6_second_45 : decode cX6_second 45 = .ok (.iload_n 2, 1) := by decide +kernel
theorem dX6_second_46 : decode cX6_second 46 = .ok (.ishl, 1) := by decide +kernel
theorem dX6_second_47 : decode cX6_second 47 = .ok (.goto 4, 3) := by decide +kernel
theorem dX6_second_50 : decode cX6_second 50 = .ok (.iconst 0, 1) := by decide +kernel
theorem dX6_second_51 : decode cX6_second 51 = .ok (.ior, 1) := by decide +kernel
theorem dX6_second_52 : decode cX6_second 52 = .ok (.istore_n 1, 1) := by decide +kernel
theorem dX6_second_53 : decode cX6_second 53 = .ok (.aload_n 0, 1) := by decide +kernel
theorem dX6_second_54 : decode cX6_second 54 = .ok (.iload_n 1, 1) := by decide +kernel
theorem dX6_second_55 : decode cX6_second 55 = .ok (.invokevirtual 198, 3) := by decide +kernel
theorem dX6_second_58 : decode cX6_second 58 = .ok (.aload_n 0, 1) := by decide +kernel
theorem dX6_second_59 : decode cX6_second 59 = .ok (.getfield 7, 3) := by decide +kernel
theorem dX6_second_62 : decode cX6_second 62 = .ok (.iconst 3, 1) := by decide +kernel
theorem dX6_second_63 : decode cX6_second 63 = .ok (.iaload, 1) := by decide +kernel
theorem dX6_second_64 : decode cX6_second 64 = .ok (.ireturn, 1) := by decide +kernel
set_option maxRecDepth 20000 in
theorem ggX6_spoilt_X6_isIn : GoodIn wsX6_spoilt wsX6_isIn := goodIn_r _ [7] (by decide +kernel) (by decide +kernel)
set_option maxRecDepth 20000 in
theorem gX6_spoilt_X6_isIn : GoodIn wsX6_spoilt (va_wsS RX6 57 yX6_isIn wsX6_isIn) := goodIn_app (goodIn_of _ (by decide +kernel)) ggX6_spoilt_X6_isIn
set_option maxRecDepth 20000 in
theorem ggX6_spoilt_X6_copyRow : GoodIn wsX6_spoilt wsX6_copyRow := goodIn_r _ [10] (by decide +kernel) (by decide +kernel)
set_option maxRecDepth 20000 in
theorem gX6_spoilt_X6_copyRow : GoodIn wsX6_spoilt (va_wsS RX6 138 yX6_copyRow wsX6_copyRow) := goodIn_app (goodIn_of _ (by decide +kernel)) ggX6_spoilt_X6_copyRow
set_option maxRecDepth 20000 in
theorem ggX6_spoilt_X6_goes : GoodIn wsX6_spoilt wsX6_goes := goodIn_r _ [14, 15, 16, 17, 6, 18, 2, 19, 20, 21, 22, 23, 24, 25, 26, 27, 28, 29, 30, 31, 32, 33, 34, 35, 36, 37, 38, 39, 40, 41, 42, 43, 44, 45, 46, 47, 48, 49, 50, 60, 61, 62, 63, 64, 65, 66, 67, 68, 69, 70, 71, 72, 73, 74, 75, 76, 77, 78, 79, 80, 81, 82, 83, 84, 85, 86] (by decide +kernel) (by decide +kernel)
set_option maxRecDepth 20000 in
theorem gX6_spoilt_X6_goes : GoodIn wsX6_spoilt (wsV RX6 203 RX6 yX6_goes wsX6_goes) := goodIn_app (goodIn_of _ (by decide +kernel)) ggX6_spoilt_X6_goes
set_option maxRecDepth 20000 in
theorem ggX6_spoilt_X6_second : GoodIn wsX6_spoilt wsX6_second := goodIn_r _ [54, 2, 15, 16, 17, 6, 18, 19, 20, 21, 22, 23, 24, 25, 26, 55, 56, 57, 58, 59, 27, 28, 29, 30, 31, 32, 33, 34, 35, 36, 37, 38, 39, 40, 41, 42, 43, 44, 45, 46, 47, 48, 49, 50, 60, 61, 62, 63, 64, 65, 66, 67, 68, 69, 70, 71, 72, 73, 74, 75, 76, 77, 78, 79, 80, 81, 82, 83, 84, 85, 86] (by decide +kernel) (by decide +kernel)
set_option maxRecDepth 20000 in
theorem gX6_spoilt_X6_second : GoodIn wsX6_spoilt (wsV RX6 213 RX6 yX6_second wsX6_second) := goodIn_app (goodIn_of _ (by decide +kernel)) ggX6_spoilt_X6_second
theorem dX6_spoilt_0 : decode cX6_spoilt 0 = .ok (.iload_n 1, 1) := by decide +kernel
theorem dX6_spoilt_1 : decode cX6_spoilt 1 = .ok (.i2l, 1) := by decide +kernel
theorem dX6_spoilt_2 : decode cX6_spoilt 2 = .ok (.lconst 1, 1) := by decide +kernel
theorem dX6_spoilt_3 : decode cX6_spoilt 3 = .ok (.ldc2_w 211, 3) := by decide +kernel
theorem dX6_spoilt_6 : decode cX6_spoilt 6 = .ok (.invokestatic 57, 3) := by decide +kernel
theorem dX6_spoilt_9 : decode cX6_spoilt 9 = .ok (.ifCond .ne 5, 3) := by decide +kernel
theorem dX6_spoilt_12 : decode cX6_spoilt 12 = .ok (.iconst (-1), 1) := by decide +kernel
theorem dX6_spoilt_13 : decode cX6_spoilt 13 = .ok (.ireturn, 1) := by decide +kernel
theorem dX6_spoilt_14 : decode cX6_spoilt 14 = .ok (.aload_n 0, 1) := by decide +kernel
theorem dX6_spoilt_15 : decode cX6_spoilt 15 = .ok (.getfield 7, 3) := by decide +kernel
theorem dX6_spoilt_18 : decode cX6_spoilt 18 = .ok (.aload_n 0, 1) := by decide +kernel
theorem dX6_spoilt_19 : decode cX6_spoilt 19 = .ok (.getfield 16, 3) := by decide +kernel
theorem dX6_spoilt_22 : decode cX6_spoilt 22 = .ok (.invokestatic 138, 3) := by decide +kernel
theorem dX6_spoilt_25 : decode cX6_spoilt 25 = .ok (.aload_n 0, 1) := by decide +kernel
theorem dX6_spoilt_26 : decode cX6_spoilt 26 = .ok (.iconst 1, 1) := by decide +kernel
theorem dX6_spoilt_27 : decode cX6_spoilt 27 = .ok (.iconst 0, 1) := by decide +kernel
theorem dX6_spoilt_28 : decode cX6_spoilt 28 = .ok (.invokevirtual 203, 3) := by decide +kernel
theorem dX6_spoilt_31 : decode cX6_spoilt 31 = .ok (.aload_n 0, 1) := by decide +kernel
theorem dX6_spoilt_32 : decode cX6_spoilt 32 = .ok (.getfield 7, 3) := by decide +kernel
theorem dX6_spoilt_35 : decode cX6_spoilt 35 = .ok (.iconst 3, 1) := by decide +kernel
theorem dX6_spoilt_36 : decode cX6_spoilt 36 = .ok (.iaload, 1) := by decide +kernel
theorem dX6_spoilt_37 : decode cX6_spoilt 37 = .ok (.istore_n 2, 1) := by decide +kernel
theorem dX6_spoilt_38 : decode cX6_spoilt 38 = .ok (.aload_n 0, 1) := by decide +kernel
theorem dX6_spoilt_39 : decode cX6_spoilt 39 = .ok (.getfield 16, 3) := by decide +kernel
theorem dX6_spoilt_42 : decode cX6_spoilt 42 = .ok (.iconst 2, 1) := by decide +kernel
theorem dX6_spoilt_43 : decode cX6_spoilt 43 = .ok (.iaload, 1) := by decide +kernel
theorem dX6_spoilt_44 : decode cX6_spoilt 44 = .ok (.istore_n 3, 1) := by decide +kernel
theorem dX6_spoilt_45 : decode cX6_spoilt 45 = .ok (.iconst 0, 1) := by decide +kernel
theorem dX6_spoilt_46 : decode cX6_spoilt 46 = .ok (.istore 4, 2) := by decide +kernel
theorem dX6_spoilt_48 : decode cX6_spoilt 48 = .ok (.iconst 0, 1) := by decide +kernel
theorem dX6_spoilt_49 : decode cX6_spoilt 49 = .ok (.istore 5, 2) := by decide +kernel
theorem dX6_spoilt_51 : decode cX6_spoilt 51 = .ok (.iload 5, 2) := by decide +kernel
theorem dX6_spoilt_53 : decode cX6_spoilt 53 = .ok (.iload_n 1, 1) := by decide +kernel
theorem dX6_spoilt_54 : decode cX6_spoilt 54 = .ok (.if_icmp .ge 52, 3) := by decide +kernel
theorem dX6_spoilt_57 : decode cX6_spoilt 57 = .ok (.aload_n 0, 1) := by decide +kernel
theorem dX6_spoilt_58 : decode cX6_spoilt 58 = .ok (.getfield 16, 3) := by decide +kernel
theorem dX6_spoilt_61 : decode cX6_spoilt 61 = .ok (.aload_n 0, 1) := by decide +kernel
theorem dX6_spoilt_62 : decode cX6_spoilt 62 = .ok (.getfield 7, 3) := by decide +kernel
theorem dX6_spoilt_65 : decode cX6_spoilt 65 = .ok (.invokestatic 138, 3) := by decide +kernel
theorem dX6_spoilt_68 : decode cX6_spoilt 68 = .ok (.aload_n 0, 1) := by decide +kernel
theorem dX6_spoilt_69 : decode cX6_spoilt 69 = .ok (.getfield 7, 3) := by decide +kernel
theorem dX6_spoilt_72 : decode cX6_spoilt 72 = .ok (.iconst 2, 1) := by decide +kernel
theorem dX6_spoilt_73 : decode cX6_spoilt 73 = .ok (.iload_n 3, 1) := by decide +kernel
theorem dX6_spoilt_74 : decode cX6_spoilt 74 = .ok (.iastore, 1) := by decide +kernel
theorem dX6_spoilt_75 : decode cX6_spoilt 75 = .ok (.iload 4, 2) := by decide +kernel
theorem dX6_spoilt_77 : decode cX6_spoilt 77 = .ok (.aload_n 0, 1) := by decide +kernel
theorem dX6_spoilt_78 : decode cX6_spoilt 78 = .ok (.invokevirtual 213, 3) := by decide +kernel
theorem dX6_spoilt_81 : decode cX6_spoilt 81 = .ok (.iload_n 2, 1) := by decide +kernel
theorem dX6_spoilt_82 : decode cX6_spoilt 82 = .ok (.if_icmp .ge 7, 3) := by decide +kernel
theorem dX6_spoilt_85 : decode cX6_spoilt 85 = .ok (.iconst 1, 1) := by decide +kernel
theorem dX6_spoilt_86 : decode cX6_spoilt 86 = .ok (.goto 4, 3) := by decide +kernel
theorem dX6_spoilt_89 : decode cX6_spoilt 89 = .ok (.iconst 0, 1) := by decide +kernel
theorem dX6_spoilt_90 : decode cX6_spoilt 90 = .ok (.iadd, 1) := by decide +kernel
theorem dX6_spoilt_91 : decode cX6_spoilt 91 = .ok (.istore 4, 2) := by decide +kernel
theorem dX6_spoilt_93 : decode cX6_spoilt 93 = .ok (.aload_n 0, 1) := by decide +kernel
theorem dX6_spoilt_94 : decode cX6_spoilt 94 = .ok (.getfield 7, 3) := by decide +kernel
theorem dX6_spoilt_97 : decode cX6_spoilt 97 = .ok (.iconst 2, 1) := by decide +kernel
theorem dX6_spoilt_98 : decode cX6_spoilt 98 = .ok (.iaload, 1) := by decide +kernel
theorem dX6_spoilt_99 : decode cX6_spoilt 99 = .ok (.istore_n 3, 1) := by decide +kernel
theorem dX6_spoilt_100 : decode cX6_spoilt 100 = .ok (.iinc 5 1, 3) := by decide +kernel
theorem dX6_spoilt_103 : decode cX6_spoilt 103 = .ok (.goto (-52), 3) := by decide +kernel
theorem dX6_spoilt_106 : decode cX6_spoilt 106 = .ok (.aload_n 0, 1) := by decide +kernel
theorem dX6_spoilt_107 : decode cX6_spoilt 107 = .ok (.getfield 16, 3) := by decide +kernel
theorem dX6_spoilt_110 : decode cX6_spoilt 110 = .ok (.aload_n 0, 1) := by decide +kernel
theorem dX6_spoilt_111 : decode cX6_spoilt 111 = .ok (.getfield 7, 3) := by decide +kernel
theorem dX6_spoilt_114 : decode cX6_spoilt 114 = .ok (.invokestatic 138, 3) := by decide +kernel
theorem dX6_spoilt_117 : decode cX6_spoilt 117 = .ok (.iload 4, 2) := by decide +kernel
theorem dX6_spoilt_119 : decode cX6_spoilt 119 = .ok (.ireturn, 1) := by decide +kernel
set_option maxRecDepth 20000 in
theorem ggX6_noises_X6_its : GoodIn wsX6_noises wsX6_its := goodIn_r _ [6, 1, 7, 8, 9, 10, 11, 12, 13, 14, 15, 16, 17, 18, 19, 20, 21, 22, 23, 24, 25, 26, 27, 28, 29, 30, 31, 32, 33] (by decide +kernel) (by decide +kernel)
set_option maxRecDepth 20000 in
theorem gX6_noises_X6_its : GoodIn wsX6_noises (wsV RX6 163 RX6 yX6_its wsX6_its) := goodIn_app (goodIn_of _ (by decide +kernel)) ggX6_noises_X6_its
theorem dX6_noises_0 : decode cX6_noises 0 = .ok (.iconst 0, 1) := by decide +kernel
theorem dX6_noises_1 : decode cX6_noises 1 = .ok (.istore_n 1, 1) := by decide +kernel
theorem dX6_noises_2 : decode cX6_noises 2 = .ok (.iconst 0, 1) := by decide +kernel
theorem dX6_noises_3 : decode cX6_noises 3 = .ok (.istore_n 2, 1) := by decide +kernel
theorem dX6_noises_4 : decode cX6_noises 4 = .ok (.iload_n 2, 1) := by decide +kernel
theorem dX6_noises_5 : decode cX6_noises 5 = .ok (.aload_n 0, 1) := by decide +kernel
theorem dX6_noises_6 : decode cX6_noises 6 = .ok (.getfield 7, 3) := by decide +kernel
theorem dX6_noises_9 : decode cX6_noises 9 = .ok (.iconst 0, 1) := by decide +kernel
theorem dX6_noises_10 : decode cX6_noises 10 = .ok (.iaload, 1) := by decide +kernel
theorem dX6_noises_11 : decode cX6_noises 11 = .ok (.if_icmp .ge 18, 3) := by decide +kernel
theorem dX6_noises_14 : decode cX6_noises 14 = .ok (.iload_n 1, 1) := by decide +kernel
theorem dX6_noises_15 : decode cX6_noises 15 = .ok (.aload_n 0, 1) := by decide +kernel
theorem dX6_noises_16 : decode cX6_noises 16 = .ok (.iload_n 2, 1) := by decide +kernel
theorem dX6_noises_17 : decode cX6_noises 17 = .ok (.iconst 4, 1) := by decide +kernel
theorem dX6_noises_18 : decode cX6_noises 18 = .ok (.invokevirtual 163, 3) := by decide +kernel
theorem dX6_noises_21 : decode cX6_noises 21 = .ok (.iadd, 1) := by decide +kernel
theorem dX6_noises_22 : decode cX6_noises 22 = .ok (.istore_n 1, 1) := by decide +kernel
theorem dX6_noises_23 : decode cX6_noises 23 = .ok (.iinc 2 1, 3) := by decide +kernel
theorem dX6_noises_26 : decode cX6_noises 26 = .ok (.goto (-22), 3) := by decide +kernel
theorem dX6_noises_29 : decode cX6_noises 29 = .ok (.iload_n 1, 1) := by decide +kernel
theorem dX6_noises_30 : decode cX6_noises 30 = .ok (.ireturn, 1) := by decide +kernel
set_option maxRecDepth 20000 in
theorem ggX6_state_X6_noises : GoodIn wsX6_state wsX6_noises := goodIn_r _ [6, 1, 7, 8, 9, 5, 10, 19, 20, 21, 22, 23, 24, 25, 26, 27, 28, 29, 30, 31, 32, 33, 34, 35, 36, 37, 38, 39, 40, 41, 42, 43, 44, 45] (by decide +kernel) (by decide +kernel)
set_option maxRecDepth 20000 in
theorem gX6_state_X6_noises : GoodIn wsX6_state (wsV RX6 216 RX6 yX6_noises wsX6_noises) := goodIn_app (goodIn_of _ (by decide +kernel)) ggX6_state_X6_noises
set_option maxRecDepth 20000 in
theorem ggX6_state_X6_sounding : GoodIn wsX6_state wsX6_sounding := goodIn_r _ [14, 1, 15, 16, 17, 5, 18, 7, 8, 9, 10, 19, 20, 21, 22, 23, 24, 25, 26, 27, 28, 29, 30, 31, 32, 33, 34, 35, 36, 37, 38, 39, 40, 41, 42, 43, 44, 45] (by decide +kernel) (by decide +kernel)
set_option maxRecDepth 20000 in
theorem gX6_state_X6_sounding : GoodIn wsX6_state (wsV RX6 186 RX6 yX6_sounding wsX6_sounding) := goodIn_app (goodIn_of _ (by decide +kernel)) ggX6_state_X6_sounding
theorem dX6_state_0 : decode cX6_state 0 = .ok (.iload_n 1, 1) := by decide +kernel
theorem dX6_state_1 : decode cX6_state 1 = .ok (.tableswitch 77 0 5 #[39, 46, 53, 60, 67, 72], 39) := by decide +kernel
theorem dX6_state_40 : decode cX6_state 40 = .ok (.aload_n 0, 1) := by decide +kernel
theorem dX6_state_41 : decode cX6_state 41 = .ok (.getfield 7, 3) := by decide +kernel
theorem dX6_state_44 : decode cX6_state 44 = .ok (.iconst 1, 1) := by decide +kernel
theorem dX6_state_45 : decode cX6_state 45 = .ok (.iaload, 1) := by decide +kernel
theorem dX6_state_46 : decode cX6_state 46 = .ok (.ireturn, 1) := by decide +kernel
theorem dX6_state_47 : decode cX6_state 47 = .ok (.aload_n 0, 1) := by decide +kernel
theorem dX6_state_48 : decode cX6_state 48 = .ok (.getfield 7, 3) := by decide +kernel
theorem dX6_state_51 : decode cX6_state 51 = .ok (.iconst 3, 1) := by decide +kernel
theorem dX6_state_52 : decode cX6_state 52 = .ok (.iaload, 1) := by decide +kernel
theorem dX6_state_53 : decode cX6_state 53 = .ok (.ireturn, 1) := by decide +kernel
theorem dX6_state_54 : decode cX6_state 54 = .ok (.aload_n 0, 1) := by decide +kernel
theorem dX6_state_55 : decode cX6_state 55 = .ok (.getfield 7, 3) := by decide +kernel
theorem dX6_state_58 : decode cX6_state 58 = .ok (.iconst 4, 1) := by decide +kernel
theorem dX6_state_59 : decode cX6_state 59 = .ok (.iaload, 1) := by decide +kernel
theorem dX6_state_60 : decode cX6_state 60 = .ok (.ireturn, 1) := by decide +kernel
theorem dX6_state_61 : decode cX6_state 61 = .ok (.aload_n 0, 1) := by decide +kernel
theorem dX6_state_62 : decode cX6_state 62 = .ok (.getfield 7, 3) := by decide +kernel
theorem dX6_state_65 : decode cX6_state 65 = .ok (.iconst 5, 1) := by decide +kernel
theorem dX6_state_66 : decode cX6_state 66 = .ok (.iaload, 1) := by decide +kernel
theorem dX6_state_67 : decode cX6_state 67 = .ok (.ireturn, 1) := by decide +kernel
theorem dX6_state_68 : decode cX6_state 68 = .ok (.aload_n 0, 1) := by decide +kernel
theorem dX6_state_69 : decode cX6_state 69 = .ok (.invokevirtual 216, 3) := by decide +kernel
theorem dX6_state_72 : decode cX6_state 72 = .ok (.ireturn, 1) := by decide +kernel
theorem dX6_state_73 : decode cX6_state 73 = .ok (.aload_n 0, 1) := by decide +kernel
theorem dX6_state_74 : decode cX6_state 74 = .ok (.invokevirtual 186, 3) := by decide +kernel
theorem dX6_state_77 : decode cX6_state 77 = .ok (.ireturn, 1) := by decide +kernel
theorem dX6_state_78 : decode cX6_state 78 = .ok (.iconst (-1), 1) := by decide +kernel
theorem dX6_state_79 : decode cX6_state 79 = .ok (.ireturn, 1) := by decide +kernel
set_option maxRecDepth 20000 in
theorem ggX6_anew_X6_becomes : GoodIn wsX6_anew wsX6_becomes := goodIn_r _ [6, 1, 7, 8, 9, 10, 11, 12, 13, 14, 15, 16, 17, 18, 19, 20, 21, 22, 23, 24, 25, 26, 27, 28, 29, 30, 31, 32, 33] (by decide +kernel) (by decide +kernel)
set_option maxRecDepth 20000 in
theorem gX6_anew_X6_becomes : GoodIn wsX6_anew (wsV RX6 154 RX6 yX6_becomes wsX6_becomes) := goodIn_app (goodIn_of _ (by decide +kernel)) ggX6_anew_X6_becomes
theorem dX6_anew_0 : decode cX6_anew 0 = .ok (.iconst 0, 1) := by decide +kernel
theorem dX6_anew_1 : decode cX6_anew 1 = .ok (.istore_n 1, 1) := by decide +kernel
theorem dX6_anew_2 : decode cX6_anew 2 = .ok (.iload_n 1, 1) := by decide +kernel
theorem dX6_anew_3 : decode cX6_anew 3 = .ok (.aload_n 0, 1) := by decide +kernel
theorem dX6_anew_4 : decode cX6_anew 4 = .ok (.getfield 7, 3) := by decide +kernel
theorem dX6_anew_7 : decode cX6_anew 7 = .ok (.iconst 0, 1) := by decide +kernel
theorem dX6_anew_8 : decode cX6_anew 8 = .ok (.iaload, 1) := by decide +kernel
theorem dX6_anew_9 : decode cX6_anew 9 = .ok (.if_icmp .ge 23, 3) := by decide +kernel
theorem dX6_anew_12 : decode cX6_anew 12 = .ok (.aload_n 0, 1) := by decide +kernel
theorem dX6_anew_13 : decode cX6_anew 13 = .ok (.getfield 7, 3) := by decide +kernel
theorem dX6_anew_16 : decode cX6_anew 16 = .ok (.bipush 10, 2) := by decide +kernel
theorem dX6_anew_18 : decode cX6_anew 18 = .ok (.iconst 5, 1) := by decide +kernel
theorem dX6_anew_19 : decode cX6_anew 19 = .ok (.iload_n 1, 1) := by decide +kernel
theorem dX6_anew_20 : decode cX6_anew 20 = .ok (.imul, 1) := by decide +kernel
theorem dX6_anew_21 : decode cX6_anew 21 = .ok (.iadd, 1) := by decide +kernel
theorem dX6_anew_22 : decode cX6_anew 22 = .ok (.iconst 4, 1) := by decide +kernel
theorem dX6_anew_23 : decode cX6_anew 23 = .ok (.iadd, 1) := by decide +kernel
theorem dX6_anew_24 : decode cX6_anew 24 = .ok (.iconst 0, 1) := by decide +kernel
theorem dX6_anew_25 : decode cX6_anew 25 = .ok (.iastore, 1) := by decide +kernel
theorem dX6_anew_26 : decode cX6_anew 26 = .ok (.iinc 1 1, 3) := by decide +kernel
theorem dX6_anew_29 : decode cX6_anew 29 = .ok (.goto (-27), 3) := by decide +kernel
theorem dX6_anew_32 : decode cX6_anew 32 = .ok (.aload_n 0, 1) := by decide +kernel
theorem dX6_anew_33 : decode cX6_anew 33 = .ok (.getfield 7, 3) := by decide +kernel
theorem dX6_anew_36 : decode cX6_anew 36 = .ok (.iconst 4, 1) := by decide +kernel
theorem dX6_anew_37 : decode cX6_anew 37 = .ok (.iconst 0, 1) := by decide +kernel
theorem dX6_anew_38 : decode cX6_anew 38 = .ok (.iastore, 1) := by decide +kernel
theorem dX6_anew_39 : decode cX6_anew 39 = .ok (.aload_n 0, 1) := by decide +kernel
theorem dX6_anew_40 : decode cX6_anew 40 = .ok (.getfield 7, 3) := by decide +kernel
theorem dX6_anew_43 : decode cX6_anew 43 = .ok (.iconst 5, 1) := by decide +kernel
theorem dX6_anew_44 : decode cX6_anew 44 = .ok (.iconst 0, 1) := by decide +kernel
theorem dX6_anew_45 : decode cX6_anew 45 = .ok (.iastore, 1) := by decide +kernel
theorem dX6_anew_46 : decode cX6_anew 46 = .ok (.aload_n 0, 1) := by decide +kernel
theorem dX6_anew_47 : decode cX6_anew 47 = .ok (.iconst 3, 1) := by decide +kernel
theorem dX6_anew_48 : decode cX6_anew 48 = .ok (.iconst 0, 1) := by decide +kernel
theorem dX6_anew_49 : decode cX6_anew 49 = .ok (.invokevirtual 154, 3) := by decide +kernel
theorem dX6_anew_52 : decode cX6_anew 52 = .ok (.ireturn, 1) := by decide +kernel
set_option maxRecDepth 20000 in
theorem ggX6_lasts_X6_isIn : GoodIn wsX6_lasts wsX6_isIn := goodIn_r _ [7] (by decide +kernel) (by decide +kernel)
set_option maxRecDepth 20000 in
theorem gX6_lasts_X6_isIn : GoodIn wsX6_lasts (va_wsS RX6 57 yX6_isIn wsX6_isIn) := goodIn_app (goodIn_of _ (by decide +kernel)) ggX6_lasts_X6_isIn
set_option maxRecDepth 20000 in
theorem ggX6_lasts_X6_copyRow : GoodIn wsX6_lasts wsX6_copyRow := goodIn_r _ [10] (by decide +kernel) (by decide +kernel)
set_option maxRecDepth 20000 in
theorem gX6_lasts_X6_copyRow : GoodIn wsX6_lasts (va_wsS RX6 138 yX6_copyRow wsX6_copyRow) := goodIn_app (goodIn_of _ (by decide +kernel)) ggX6_lasts_X6_copyRow
set_option maxRecDepth 20000 in
theorem ggX6_lasts_X6_goes : GoodIn wsX6_lasts wsX6_goes := goodIn_r _ [14, 15, 16, 17, 6, 18, 2, 19, 20, 21, 22, 23, 24, 25, 26, 27, 28, 29, 30, 31, 32, 33, 34, 35, 36, 37, 38, 39, 40, 41, 42, 43, 44, 45, 46, 47, 48, 49, 50, 51, 52, 53, 54, 55, 56, 57, 58, 59, 60, 61, 62, 63, 64, 65, 66, 67, 68, 69, 70, 71, 72, 73, 74, 75, 76, 77] (by decide +kernel) (by decide +kernel)
set_option maxRecDepth 20000 in
theorem gX6_lasts_X6_goes : GoodIn wsX6_lasts (wsV RX6 203 RX6 yX6_goes wsX6_goes) := goodIn_app (goodIn_of _ (by decide +kernel)) ggX6_lasts_X6_goes
theorem dX6_lasts_0 : decode cX6_lasts 0 = .ok (.iload_n 1, 1) := by decide +kernel
theorem dX6_lasts_1 : decode cX6_lasts 1 = .ok (.i2l, 1) := by decide +kernel
theorem dX6_lasts_2 : decode cX6_lasts 2 = .ok (.lconst 0, 1) := by decide +kernel
theorem dX6_lasts_3 : decode cX6_lasts 3 = .ok (.ldc2_w 201, 3) := by decide +kernel
theorem dX6_lasts_6 : decode cX6_lasts 6 = .ok (.invokestatic 57, 3) := by decide +kernel
theorem dX6_lasts_9 : decode cX6_lasts 9 = .ok (.ifCond .ne 5, 3) := by decide +kernel
theorem dX6_lasts_12 : decode cX6_lasts 12 = .ok (.iconst (-1), 1) := by decide +kernel
theorem dX6_lasts_13 : decode cX6_lasts 13 = .ok (.ireturn, 1) := by decide +kernel
theorem dX6_lasts_14 : decode cX6_lasts 14 = .ok (.aload_n 0, 1) := by decide +kernel
theorem dX6_lasts_15 : decode cX6_lasts 15 = .ok (.getfield 7, 3) := by decide +kernel
theorem dX6_lasts_18 : decode cX6_lasts 18 = .ok (.aload_n 0, 1) := by decide +kernel
theorem dX6_lasts_19 : decode cX6_lasts 19 = .ok (.getfield 16, 3) := by decide +kernel
theorem dX6_lasts_22 : decode cX6_lasts 22 = .ok (.invokestatic 138, 3) := by decide +kernel
theorem dX6_lasts_25 : decode cX6_lasts 25 = .ok (.aload_n 0, 1) := by decide +kernel
theorem dX6_lasts_26 : decode cX6_lasts 26 = .ok (.iload_n 1, 1) := by decide +kernel
theorem dX6_lasts_27 : decode cX6_lasts 27 = .ok (.iconst 0, 1) := by decide +kernel
theorem dX6_lasts_28 : decode cX6_lasts 28 = .ok (.invokevirtual 203, 3) := by decide +kernel
theorem dX6_lasts_31 : decode cX6_lasts 31 = .ok (.aload_n 0, 1) := by decide +kernel
theorem dX6_lasts_32 : decode cX6_lasts 32 = .ok (.getfield 7, 3) := by decide +kernel
theorem dX6_lasts_35 : decode cX6_lasts 35 = .ok (.iconst 3, 1) := by decide +kernel
theorem dX6_lasts_36 : decode cX6_lasts 36 = .ok (.iaload, 1) := by decide +kernel
theorem dX6_lasts_37 : decode cX6_lasts 37 = .ok (.istore_n 2, 1) := by decide +kernel
theorem dX6_lasts_38 : decode cX6_lasts 38 = .ok (.aload_n 0, 1) := by decide +kernel
theorem dX6_lasts_39 : decode cX6_lasts 39 = .ok (.getfield 16, 3) := by decide +kernel
theorem dX6_lasts_42 : decode cX6_lasts 42 = .ok (.aload_n 0, 1) := by decide +kernel
theorem dX6_lasts_43 : decode cX6_lasts 43 = .ok (.getfield 7, 3) := by decide +kernel
theorem dX6_lasts_46 : decode cX6_lasts 46 = .ok (.invokestatic 138, 3) := by decide +kernel
theorem dX6_lasts_49 : decode cX6_lasts 49 = .ok (.iload_n 2, 1) := by decide +kernel
theorem dX6_lasts_50 : decode cX6_lasts 50 = .ok (.ireturn, 1) := by decide +kernel
set_option maxRecDepth 20000 in
theorem ggX6_lengthBy_X6_copyRow : GoodIn wsX6_lengthBy wsX6_copyRow := goodIn_r _ [6] (by decide +kernel) (by decide +kernel)
set_option maxRecDepth 20000 in
theorem gX6_lengthBy_X6_copyRow : GoodIn wsX6_lengthBy (va_wsS RX6 138 yX6_copyRow wsX6_copyRow) := goodIn_app (goodIn_of _ (by decide +kernel)) ggX6_lengthBy_X6_copyRow
set_option maxRecDepth 20000 in
theorem ggX6_lengthBy_X6_goes : GoodIn wsX6_lengthBy wsX6_goes := goodIn_r _ [10, 11, 12, 13, 5, 14, 1, 15, 16, 17, 18, 19, 20, 21, 22, 23, 24, 25, 26, 27, 28, 29, 30, 31, 32, 33, 34, 35, 36, 37, 38, 39, 40, 41, 42, 43, 44, 45, 46, 47, 48, 49, 50, 51, 52, 53, 54, 55, 56, 57, 58, 59, 60, 61, 62, 63, 64, 65, 66, 67, 68, 69, 70, 71, 72, 73] (by decide +kernel) (by decide +kernel)
set_option maxRecDepth 20000 in
theorem gX6_lengthBy_X6_goes : GoodIn wsX6_lengthBy (wsV RX6 203 RX6 yX6_goes wsX6_goes) := goodIn_app (goodIn_of _ (by decide +kernel)) ggX6_lengthBy_X6_goes
set_option maxRecDepth 20000 in
theorem ggX6_lengthBy_X6_greatest : GoodIn wsX6_lengthBy wsX6_greatest := goodIn_r _ [46] (by decide +kernel) (by decide +kernel)
set_option maxRecDepth 20000 in
theorem gX6_lengthBy_X6_greatest : GoodIn wsX6_lengthBy (va_wsS RX6 195 yX6_greatest wsX6_greatest) := goodIn_app (goodIn_of _ (by decide +kernel)) ggX6_lengthBy_X6_greatest
theorem dX6_lengthBy_0 : decode cX6_lengthBy 0 = .ok (.aload_n 0, 1) := by decide +kernel
theorem dX6_lengthBy_1 : decode cX6_lengthBy 1 = .ok (.getfield 7, 3) := by decide +kernel
theorem dX6_lengthBy_4 : decode cX6_lengthBy 4 = .ok (.aload_n 0, 1) := by decide +kernel
theorem dX6_lengthBy_5 : decode cX6_lengthBy 5 = .ok (.getfield 16, 3) := by decide +kernel
theorem dX6_lengthBy_8 : decode cX6_lengthBy 8 = .ok (.invokestatic 138, 3) := by decide +kernel
theorem dX6_lengthBy_11 : decode cX6_lengthBy 11 = .ok (.iconst 0, 1) := by decide +kernel
theorem dX6_lengthBy_12 : decode cX6_lengthBy 12 = .ok (.istore_n 3, 1) := by decide +kernel
theorem dX6_lengthBy_13 : decode cX6_lengthBy 13 = .ok (.iconst 0, 1) := by decide +kernel
theorem dX6_lengthBy_14 : decode cX6_lengthBy 14 = .ok (.istore 4, 2) := by decide +kernel
theorem dX6_lengthBy_16 : decode cX6_lengthBy 16 = .ok (.iload 4, 2) := by decide +kernel
theorem dX6_lengthBy_18 : decode cX6_lengthBy 18 = .ok (.iload_n 1, 1) := by decide +kernel
theorem dX6_lengthBy_19 : decode cX6_lengthBy 19 = .ok (.if_icmp .ge 26, 3) := by decide +kernel
theorem dX6_lengthBy_22 : decode cX6_lengthBy 22 = .ok (.aload_n 0, 1) := by decide +kernel
theorem dX6_lengthBy_23 : decode cX6_lengthBy 23 = .ok (.iconst 1, 1) := by decide +kernel
theorem dX6_lengthBy_24 : decode cX6_lengthBy 24 = .ok (.iload_n 2, 1) := by decide +kernel
theorem dX6_lengthBy_25 : decode cX6_lengthBy 25 = .ok (.invokevirtual 203, 3) := by decide +kernel
theorem dX6_lengthBy_28 : decode cX6_lengthBy 28 = .ok (.iload_n 3, 1) := by decide +kernel
theorem dX6_lengthBy_29 : decode cX6_lengthBy 29 = .ok (.aload_n 0, 1) := by decide +kernel
theorem dX6_lengthBy_30 : decode cX6_lengthBy 30 = .ok (.getfield 7, 3) := by decide +kernel
theorem dX6_lengthBy_33 : decode cX6_lengthBy 33 = .ok (.iconst 3, 1) := by decide +kernel
theorem dX6_lengthBy_34 : decode cX6_lengthBy 34 = .ok (.iaload, 1) := by decide +kernel
theorem dX6_lengthBy_35 : decode cX6_lengthBy 35 = .ok (.invokestatic 195, 3) := by decide +kernel
theorem dX6_lengthBy_38 : decode cX6_lengthBy 38 = .ok (.istore_n 3, 1) := by decide +kernel
theorem dX6_lengthBy_39 : decode cX6_lengthBy 39 = .ok (.iinc 4 1, 3) := by decide +kernel
theorem dX6_lengthBy_42 : decode cX6_lengthBy 42 = .ok (.goto (-26), 3) := by decide +kernel
theorem dX6_lengthBy_45 : decode cX6_lengthBy 45 = .ok (.aload_n 0, 1) := by decide +kernel
theorem dX6_lengthBy_46 : decode cX6_lengthBy 46 = .ok (.getfield 16, 3) := by decide +kernel
theorem dX6_lengthBy_49 : decode cX6_lengthBy 49 = .ok (.aload_n 0, 1) := by decide +kernel
theorem dX6_lengthBy_50 : decode cX6_lengthBy 50 = .ok (.getfield 7, 3) := by decide +kernel
theorem dX6_lengthBy_53 : decode cX6_lengthBy 53 = .ok (.invokestatic 138, 3) := by decide +kernel
theorem dX6_lengthBy_56 : decode cX6_lengthBy 56 = .ok (.iload_n 3, 1) := by decide +kernel
theorem dX6_lengthBy_57 : decode cX6_lengthBy 57 = .ok (.ireturn, 1) := by decide +kernel
set_option maxRecDepth 20000 in
theorem ggX6_isLong_X6_isIn : GoodIn wsX6_isLong wsX6_isIn := goodIn_r _ [5] (by decide +kernel) (by decide +kernel)
set_option maxRecDepth 20000 in
theorem gX6_isLong_X6_isIn : GoodIn wsX6_isLong (va_wsS RX6 57 yX6_isIn wsX6_isIn) := goodIn_app (goodIn_of _ (by decide +kernel)) ggX6_isLong_X6_isIn
theorem dX6_isLong_0 : decode cX6_isLong 0 = .ok (.iload_n 0, 1) := by decide +kernel
theorem dX6_isLong_1 : decode cX6_isLong 1 = .ok (.i2l, 1) := by decide +kernel
theorem dX6_isLong_2 : decode cX6_isLong 2 = .ok (.lconst 1, 1) := by decide +kernel
theorem dX6_isLong_3 : decode cX6_isLong 3 = .ok (.ldc2_w 201, 3) := by decide +kernel
theorem dX6_isLong_6 : decode cX6_isLong 6 = .ok (.invokestatic 57, 3) := by decide +kernel
theorem dX6_isLong_9 : decode cX6_isLong 9 = .ok (.ireturn, 1) := by decide +kernel
set_option maxRecDepth 20000 in
theorem ggX6_length_X6_isLong : GoodIn wsX6_length wsX6_isLong := goodIn_r _ [4, 5, 6, 7, 3, 8] (by decide +kernel) (by decide +kernel)
set_option maxRecDepth 20000 in
theorem gX6_length_X6_isLong : GoodIn wsX6_length (va_wsS RX6 219 yX6_isLong wsX6_isLong) := goodIn_app (goodIn_of _ (by decide +kernel)) ggX6_length_X6_isLong
set_option maxRecDepth 20000 in
theorem ggX6_length_X6_lengthBy : GoodIn wsX6_length wsX6_lengthBy := goodIn_r _ [12, 13, 14, 15, 16, 3, 17, 18, 19, 20, 21, 22, 23, 24, 25, 26, 27, 28, 29, 30, 31, 32, 33, 34, 35, 36, 37, 38, 39, 40, 41, 42, 43, 44, 45, 46, 47, 48, 49, 50, 51, 52, 53, 54, 55, 56, 57, 58, 59, 60, 61, 62, 63, 64, 65, 66, 67, 68, 69, 70, 71, 72, 73, 74, 75, 76, 77, 78, 79, 80, 81, 82, 83, 84] (by decide +kernel) (by decide +kernel)
set_option maxRecDepth 20000 in
theorem gX6_length_X6_lengthBy : GoodIn wsX6_length (wsV RX6 222 RX6 yX6_lengthBy wsX6_lengthBy) := goodIn_app (goodIn_of _ (by decide +kernel)) ggX6_length_X6_lengthBy
theorem dX6_length_0 : decode cX6_length 0 = .ok (.iload_n 1, 1) := by decide +kernel
theorem dX6_length_1 : decode cX6_length 1 = .ok (.invokestatic 219, 3) := by decide +kernel
theorem dX6_length_4 : decode cX6_length 4 = .ok (.ifCond .eq 12, 3) := by decide +kernel
theorem dX6_length_7 : decode cX6_length 7 = .ok (.aload_n 0, 1) := by decide +kernel
theorem dX6_length_8 : decode cX6_length 8 = .ok (.iload_n 1, 1) := by decide +kernel
theorem dX6_length_9 : decode cX6_length 9 = .ok (.iconst 0, 1) := by decide +kernel
theorem dX6_length_10 : decode cX6_length 10 = .ok (.invokevirtual 222, 3) := by decide +kernel
theorem dX6_length_13 : decode cX6_length 13 = .ok (.goto 4, 3) := by decide +kernel
theorem dX6_length_16 : decode cX6_length 16 = .ok (.iconst (-1), 1) := by decide +kernel
theorem dX6_length_17 : decode cX6_length 17 = .ok (.ireturn, 1) := by decide +kernel
set_option maxRecDepth 20000 in
theorem ggX6_kept_X6_copyRow : GoodIn wsX6_kept wsX6_copyRow := goodIn_r _ [6] (by decide +kernel) (by decide +kernel)
set_option maxRecDepth 20000 in
theorem gX6_kept_X6_copyRow : GoodIn wsX6_kept (va_wsS RX6 138 yX6_copyRow wsX6_copyRow) := goodIn_app (goodIn_of _ (by decide +kernel)) ggX6_kept_X6_copyRow
set_option maxRecDepth 20000 in
theorem ggX6_kept_X6_goes : GoodIn wsX6_kept wsX6_goes := goodIn_r _ [10, 11, 12, 13, 5, 14, 1, 15, 16, 17, 18, 19, 20, 21, 22, 23, 24, 25, 26, 27, 28, 29, 30, 31, 32, 33, 34, 35, 36, 37, 38, 39, 40, 41, 42, 43, 44, 45, 46, 47, 48, 49, 50, 51, 52, 53, 54, 55, 56, 57, 58, 59, 60, 61, 62, 63, 64, 65, 66, 67, 68, 69, 70, 71, 72, 73] (by decide +kernel) (by decide +kernel)
set_option maxRecDepth 20000 in
theorem gX6_kept_X6_goes : GoodIn wsX6_kept (wsV RX6 203 RX6 yX6_goes wsX6_goes) := goodIn_app (goodIn_of _ (by decide +kernel)) ggX6_kept_X6_goes
theorem dX6_kept_0 : decode cX6_kept 0 = .ok (.aload_n 0, 1) := by decide +kernel
theorem dX6_kept_1 : decode cX6_kept 1 = .ok (.getfield 7, 3) := by decide +kernel
theorem dX6_kept_4 : decode cX6_kept 4 = .ok (.aload_n 0, 1) := by decide +kernel
theorem dX6_kept_5 : decode cX6_kept 5 = .ok (.getfield 16, 3) := by decide +kernel
theorem dX6_kept_8 : decode cX6_kept 8 = .ok (.invokestatic 138, 3) := by decide +kernel
theorem dX6_kept_11 : decode cX6_kept 11 = .ok (.iconst 0, 1) := by decide +kernel
theorem dX6_kept_12 : decode cX6_kept 12 = .ok (.istore_n 1, 1) := by decide +kernel
theorem dX6_kept_13 : decode cX6_kept 13 = .ok (.iload_n 1, 1) := by decide +kernel
theorem dX6_kept_14 : decode cX6_kept 14 = .ok (.bipush 60, 2) := by decide +kernel
theorem dX6_kept_16 : decode cX6_kept 16 = .ok (.if_icmp .gt 24, 3) := by decide +kernel
theorem dX6_kept_19 : decode cX6_kept 19 = .ok (.aload_n 0, 1) := by decide +kernel
theorem dX6_kept_20 : decode cX6_kept 20 = .ok (.getfield 7, 3) := by decide +kernel
theorem dX6_kept_23 : decode cX6_kept 23 = .ok (.iconst 5, 1) := by decide +kernel
theorem dX6_kept_24 : decode cX6_kept 24 = .ok (.iaload, 1) := by decide +kernel
theorem dX6_kept_25 : decode cX6_kept 25 = .ok (.ifCond .ne 15, 3) := by decide +kernel
theorem dX6_kept_28 : decode cX6_kept 28 = .ok (.aload_n 0, 1) := by decide +kernel
theorem dX6_kept_29 : decode cX6_kept 29 = .ok (.iconst 1, 1) := by decide +kernel
theorem dX6_kept_30 : decode cX6_kept 30 = .ok (.iconst 0, 1) := by decide +kernel
theorem dX6_kept_31 : decode cX6_kept 31 = .ok (.invokevirtual 203, 3) := by decide +kernel
theorem dX6_kept_34 : decode cX6_kept 34 = .ok (.iinc 1 1, 3) := by decide +kernel
theorem dX6_kept_37 : decode cX6_kept 37 = .ok (.goto (-24), 3) := by decide +kernel
theorem dX6_kept_40 : decode cX6_kept 40 = .ok (.aload_n 0, 1) := by decide +kernel
theorem dX6_kept_41 : decode cX6_kept 41 = .ok (.getfield 16, 3) := by decide +kernel
theorem dX6_kept_44 : decode cX6_kept 44 = .ok (.aload_n 0, 1) := by decide +kernel
theorem dX6_kept_45 : decode cX6_kept 45 = .ok (.getfield 7, 3) := by decide +kernel
theorem dX6_kept_48 : decode cX6_kept 48 = .ok (.invokestatic 138, 3) := by decide +kernel
theorem dX6_kept_51 : decode cX6_kept 51 = .ok (.iload_n 1, 1) := by decide +kernel
theorem dX6_kept_52 : decode cX6_kept 52 = .ok (.bipush 60, 2) := by decide +kernel
theorem dX6_kept_54 : decode cX6_kept 54 = .ok (.if_icmp .gt 7, 3) := by decide +kernel
theorem dX6_kept_57 : decode cX6_kept 57 = .ok (.iload_n 1, 1) := by decide +kernel
theorem dX6_kept_58 : decode cX6_kept 58 = .ok (.goto 5, 3) := by decide +kernel
theorem dX6_kept_61 : decode cX6_kept 61 = .ok (.bipush (-3), 2) := by decide +kernel
theorem dX6_kept_63 : decode cX6_kept 63 = .ok (.ireturn, 1) := by decide +kernel
theorem dX6_leastOf_0 : decode cX6_leastOf 0 = .ok (.iconst 0, 1) := by decide +kernel
theorem dX6_leastOf_1 : decode cX6_leastOf 1 = .ok (.istore_n 1, 1) := by decide +kernel
theorem dX6_leastOf_2 : decode cX6_leastOf 2 = .ok (.iload_n 0, 1) := by decide +kernel
theorem dX6_leastOf_3 : decode cX6_leastOf 3 = .ok (.iload_n 1, 1) := by decide +kernel
theorem dX6_leastOf_4 : decode cX6_leastOf 4 = .ok (.ishr, 1) := by decide +kernel
theorem dX6_leastOf_5 : decode cX6_leastOf 5 = .ok (.iconst 1, 1) := by decide +kernel
theorem dX6_leastOf_6 : decode cX6_leastOf 6 = .ok (.iand, 1) := by decide +kernel
theorem dX6_leastOf_7 : decode cX6_leastOf 7 = .ok (.ifCond .ne 9, 3) := by decide +kernel
theorem dX6_leastOf_10 : decode cX6_leastOf 10 = .ok (.iinc 1 1, 3) := by decide +kernel
theorem dX6_leastOf_13 : decode cX6_leastOf 13 = .ok (.goto (-11), 3) := by decide +kernel
theorem dX6_leastOf_16 : decode cX6_leastOf 16 = .ok (.iload_n 1, 1) := by decide +kernel
theorem dX6_leastOf_17 : decode cX6_leastOf 17 = .ok (.ireturn, 1) := by decide +kernel
set_option maxRecDepth 20000 in
theorem ggX6_broken_X6_isIn : GoodIn wsX6_broken wsX6_isIn := goodIn_r _ [6] (by decide +kernel) (by decide +kernel)
set_option maxRecDepth 20000 in
theorem gX6_broken_X6_isIn : GoodIn wsX6_broken (va_wsS RX6 57 yX6_isIn wsX6_isIn) := goodIn_app (goodIn_of _ (by decide +kernel)) ggX6_broken_X6_isIn
set_option maxRecDepth 20000 in
theorem ggX6_broken_X6_copyRow : GoodIn wsX6_broken wsX6_copyRow := goodIn_r _ [9] (by decide +kernel) (by decide +kernel)
set_option maxRecDepth 20000 in
theorem gX6_broken_X6_copyRow : GoodIn wsX6_broken (va_wsS RX6 138 yX6_copyRow wsX6_copyRow) := goodIn_app (goodIn_of _ (by decide +kernel)) ggX6_broken_X6_copyRow
set_option maxRecDepth 20000 in
theorem ggX6_broken_X6_sounding : GoodIn wsX6_broken wsX6_sounding := goodIn_r _ [13, 1, 14, 15, 16, 5, 17, 18, 19, 20, 21, 49, 50, 51, 52, 53, 54, 55, 56, 57, 58, 59, 60, 61, 62, 63, 64, 65, 66, 67, 68, 69, 70, 71, 72, 73, 74, 75] (by decide +kernel) (by decide +kernel)
set_option maxRecDepth 20000 in
theorem gX6_broken_X6_sounding : GoodIn wsX6_broken (wsV RX6 186 RX6 yX6_sounding wsX6_sounding) := goodIn_app (goodIn_of _ (by decide +kernel)) ggX6_broken_X6_sounding
set_option maxRecDepth 20000 in
theorem ggX6_broken_X6_goesBy : GoodIn wsX6_broken wsX6_goesBy := goodIn_r _ [25, 1, 18, 19, 20, 5, 21, 26, 27, 28, 29, 30, 31, 32, 33, 34, 35, 36, 37, 38, 39, 40, 41, 42, 43, 44, 45, 49, 50, 51, 52, 53, 54, 55, 56, 57, 58, 59, 60, 61, 62, 63, 64, 65, 66, 67, 68, 69, 70, 71, 72, 73, 74, 75] (by decide +kernel) (by decide +kernel)
set_option maxRecDepth 20000 in
theorem gX6_broken_X6_goesBy : GoodIn wsX6_broken (wsV RX6 198 RX6 yX6_goesBy wsX6_goesBy) := goodIn_app (goodIn_of _ (by decide +kernel)) ggX6_broken_X6_goesBy
set_option maxRecDepth 20000 in
theorem ggX6_broken_X6_leastOf : GoodIn wsX6_broken wsX6_leastOf := goodIn_r _ [48] (by decide +kernel) (by decide +kernel)
set_option maxRecDepth 20000 in
theorem gX6_broken_X6_leastOf : GoodIn wsX6_broken (va_wsS RX6 225 yX6_leastOf wsX6_leastOf) := goodIn_app (goodIn_of _ (by decide +kernel)) ggX6_broken_X6_leastOf
theorem dX6_broken_0 : decode cX6_broken 0 = .ok (.iload_n 1, 1) := by decide +kernel
theorem dX6_broken_1 : decode cX6_broken 1 = .ok (.i2l, 1) := by decide +kernel
theorem dX6_broken_2 : decode cX6_broken 2 = .ok (.lconst 0, 1) := by decide +kernel
theorem dX6_broken_3 : decode cX6_broken 3 = .ok (.lconst 1, 1) := by decide +kernel
theorem dX6_broken_4 : decode cX6_broken 4 = .ok (.invokestatic 57, 3) := by decide +kernel
theorem dX6_broken_7 : decode cX6_broken 7 = .ok (.ifCond .ne 5, 3) := by decide +kernel
theorem dX6_broken_10 : decode cX6_broken 10 = .ok (.iconst (-1), 1) := by decide +kernel
theorem dX6_broken_11 : decode cX6_broken 11 = .ok (.ireturn, 1) := by decide +kernel
theorem dX6_broken_12 : decode cX6_broken 12 = .ok (.aload_n 0, 1) := by decide +kernel
theorem dX6_broken_13 : decode cX6_broken 13 = .ok (.getfield 7, 3) := by decide +kernel
theorem dX6_broken_16 : decode cX6_broken 16 = .ok (.aload_n 0, 1) := by decide +kernel
theorem dX6_broken_17 : decode cX6_broken 17 = .ok (.getfield 16, 3) := by decide +kernel
theorem dX6_broken_20 : decode cX6_broken 20 = .ok (.invokestatic 138, 3) := by decide +kernel
theorem dX6_broken_23 : decode cX6_broken 23 = .ok (.iconst 0, 1) := by decide +kernel
theorem dX6_broken_24 : decode cX6_broken 24 = .ok (.istore_n 2, 1) := by decide +kernel
theorem dX6_broken_25 : decode cX6_broken 25 = .ok (.iconst 0, 1) := by decide +kernel
theorem dX6_broken_26 : decode cX6_broken 26 = .ok (.istore_n 3, 1) := by decide +kernel
theorem dX6_broken_27 : decode cX6_broken 27 = .ok (.iload_n 2, 1) := by decide +kernel
theorem dX6_broken_28 : decode cX6_broken 28 = .ok (.bipush 60, 2) := by decide +kernel
theorem dX6_broken_30 : decode cX6_broken 30 = .ok (.if_icmp .ge 23, 3) := by decide +kernel
theorem dX6_broken_33 : decode cX6_broken 33 = .ok (.iload_n 3, 1) := by decide +kernel
theorem dX6_broken_34 : decode cX6_broken 34 = .ok (.ifCond .ne 19, 3) := by decide +kernel
theorem dX6_broken_37 : decode cX6_broken 37 = .ok (.aload_n 0, 1) := by decide +kernel
theorem dX6_broken_38 : decode cX6_broken 38 = .ok (.invokevirtual 186, 3) := by decide +kernel
theorem dX6_broken_41 : decode cX6_broken 41 = .ok (.istore_n 3, 1) := by decide +kernel
theorem dX6_broken_42 : decode cX6_broken 42 = .ok (.aload_n 0, 1) := by decide +kernel
theorem dX6_broken_43 : decode cX6_broken 43 = .ok (.iload_n 3, 1) := by decide +kernel
theorem dX6_broken_44 : decode cX6_broken 44 = .ok (.invokevirtual 198, 3) := by decide +kernel
theorem dX6_broken_47 : decode cX6_broken 47 = .ok (.iinc 2 1, 3) := by decide +kernel
theorem dX6_broken_50 : decode cX6_broken 50 = .ok (.goto (-23), 3) := by decide +kernel
theorem dX6_broken_53 : decode cX6_broken 53 = .ok (.aload_n 0, 1) := by decide +kernel
theorem dX6_broken_54 : decode cX6_broken 54 = .ok (.getfield 16, 3) := by decide +kernel
theorem dX6_broken_57 : decode cX6_broken 57 = .ok (.aload_n 0, 1) := by decide +kernel
theorem dX6_broken_58 : decode cX6_broken 58 = .ok (.getfield 7, 3) := by decide +kernel
theorem dX6_broken_61 : decode cX6_broken 61 = .ok (.invokestatic 138, 3) := by decide +kernel
theorem dX6_broken_64 : decode cX6_broken 64 = .ok (.iload_n 3, 1) := by decide +kernel
theorem dX6_broken_65 : decode cX6_broken 65 = .ok (.ifCond .ne 8, 3) := by decide +kernel
theorem dX6_broken_68 : decode cX6_broken 68 = .ok (.bipush (-3), 2) := by decide +kernel
theorem dX6_broken_70 : decode cX6_broken 70 = .ok (.goto 15, 3) := by decide +kernel
theorem dX6_broken_73 : decode cX6_broken 73 = .ok (.iload_n 1, 1) := by decide +kernel
theorem dX6_broken_74 : decode cX6_broken 74 = .ok (.ifCond .ne 7, 3) := by decide +kernel
theorem dX6_broken_77 : decode cX6_broken 77 = .ok (.iload_n 2, 1) := by decide +kernel
theorem dX6_broken_78 : decode cX6_broken 78 = .ok (.goto 7, 3) := by decide +kernel
theorem dX6_broken_81 : decode cX6_broken 81 = .ok (.iload_n 3, 1) := by decide +kernel
theorem dX6_broken_82 : decode cX6_broken 82 = .ok (.invokestatic 225, 3) := by decide +kernel
theorem dX6_broken_85 : decode cX6_broken 85 = .ok (.ireturn, 1) := by decide +kernel
set_option maxRecDepth 20000 in
theorem ggX6_quietestBy_X6_lengthBy : GoodIn wsX6_quietestBy wsX6_lengthBy := goodIn_r _ [6, 1, 7, 8, 9, 5, 10, 11, 12, 13, 14, 15, 16, 17, 18, 19, 20, 21, 22, 23, 24, 25, 26, 27, 28, 29, 30, 31, 32, 33, 34, 35, 36, 37, 38, 39, 40, 41, 42, 43, 44, 45, 46, 47, 48, 49, 50, 51, 52, 53, 54, 55, 56, 57, 58, 59, 60, 61, 62, 63, 64, 65, 66, 67, 68, 69, 70, 71, 72, 73, 74, 75, 76, 77] (by decide +kernel) (by decide +kernel)
set_option maxRecDepth 20000 in
theorem gX6_quietestBy_X6_lengthBy : GoodIn wsX6_quietestBy (wsV RX6 222 RX6 yX6_lengthBy wsX6_lengthBy) := goodIn_app (goodIn_of _ (by decide +kernel)) ggX6_quietestBy_X6_lengthBy
set_option maxRecDepth 20000 in
theorem ggX6_quietestBy_X6_greatest : GoodIn wsX6_quietestBy wsX6_greatest := goodIn_r _ [50] (by decide +kernel) (by decide +kernel)
set_option maxRecDepth 20000 in
theorem gX6_quietestBy_X6_greatest : GoodIn wsX6_quietestBy (va_wsS RX6 195 yX6_greatest wsX6_greatest) := goodIn_app (goodIn_of _ (by decide +kernel)) ggX6_quietestBy_X6_greatest
theorem dX6_quietestBy_0 : decode cX6_quietestBy 0 = .ok (.bipush 10, 2) := by decide +kernel
theorem dX6_quietestBy_2 : decode cX6_quietestBy 2 = .ok (.iconst 5, 1) := by decide +kernel
theorem dX6_quietestBy_3 : decode cX6_quietestBy 3 = .ok (.iload_n 1, 1) := by decide +kernel
theorem dX6_quietestBy_4 : decode cX6_quietestBy 4 = .ok (.imul, 1) := by decide +kernel
theorem dX6_quietestBy_5 : decode cX6_quietestBy 5 = .ok (.iadd, 1) := by decide +kernel
theorem dX6_quietestBy_6 : decode cX6_quietestBy 6 = .ok (.iload_n 2, 1) := by decide +kernel
theorem dX6_quietestBy_7 : decode cX6_quietestBy 7 = .ok (.iadd, 1) := by decide +kernel
theorem dX6_quietestBy_8 : decode cX6_quietestBy 8 = .ok (.istore 6, 2) := by decide +kernel
theorem dX6_quietestBy_10 : decode cX6_quietestBy 10 = .ok (.aload_n 0, 1) := by decide +kernel
theorem dX6_quietestBy_11 : decode cX6_quietestBy 11 = .ok (.getfield 7, 3) := by decide +kernel
theorem dX6_quietestBy_14 : decode cX6_quietestBy 14 = .ok (.iload 6, 2) := by decide +kernel
theorem dX6_quietestBy_16 : decode cX6_quietestBy 16 = .ok (.iaload, 1) := by decide +kernel
theorem dX6_quietestBy_17 : decode cX6_quietestBy 17 = .ok (.istore 7, 2) := by decide +kernel
theorem dX6_quietestBy_19 : decode cX6_quietestBy 19 = .ok (.iload_n 3, 1) := by decide +kernel
theorem dX6_quietestBy_20 : decode cX6_quietestBy 20 = .ok (.istore 8, 2) := by decide +kernel
theorem dX6_quietestBy_22 : decode cX6_quietestBy 22 = .ok (.iconst (-1), 1) := by decide +kernel
theorem dX6_quietestBy_23 : decode cX6_quietestBy 23 = .ok (.istore 9, 2) := by decide +kernel
theorem dX6_quietestBy_25 : decode cX6_quietestBy 25 = .ok (.iload_n 3, 1) := by decide +kernel
theorem dX6_quietestBy_26 : decode cX6_quietestBy 26 = .ok (.istore 10, 2) := by decide +kernel
theorem dX6_quietestBy_28 : decode cX6_quietestBy 28 = .ok (.iload 10, 2) := by decide +kernel
theorem dX6_quietestBy_30 : decode cX6_quietestBy 30 = .ok (.iload 4, 2) := by decide +kernel
theorem dX6_quietestBy_32 : decode cX6_quietestBy 32 = .ok (.if_icmp .gt 52, 3) := by decide +kernel
theorem dX6_quietestBy_35 : decode cX6_quietestBy 35 = .ok (.aload_n 0, 1) := by decide +kernel
theorem dX6_quietestBy_36 : decode cX6_quietestBy 36 = .ok (.getfield 7, 3) := by decide +kernel
theorem dX6_quietestBy_39 : decode cX6_quietestBy 39 = .ok (.iload 6, 2) := by decide +kernel
theorem dX6_quietestBy_41 : decode cX6_quietestBy 41 = .ok (.iload 10, 2) := by decide +kernel
theorem dX6_quietestBy_43 : decode cX6_quietestBy 43 = .ok (.iastore, 1) := by decide +kernel
theorem dX6_quietestBy_44 : decode cX6_quietestBy 44 = .ok (.aload_n 0, 1) := by decide +kernel
theorem dX6_quietestBy_45 : decode cX6_quietestBy 45 = .ok (.iload 5, 2) := by decide +kernel
theorem dX6_quietestBy_47 : decode cX6_quietestBy 47 = .ok (.iconst 0, 1) := by decide +kernel
theorem dX6_quietestBy_48 : decode cX6_quietestBy 48 = .ok (.invokevirtual 222, 3) := by decide +kernel
theorem dX6_quietestBy_51 : decode cX6_quietestBy 51 = .ok (.istore 11, 2) := by decide +kernel
theorem dX6_quietestBy_53 : decode cX6_quietestBy 53 = .ok (.iload 11, 2) := by decide +kernel
theorem dX6_quietestBy_55 : decode cX6_quietestBy 55 = .ok (.iload 9, 2) := by decide +kernel
theorem dX6_quietestBy_57 : decode cX6_quietestBy 57 = .ok (.if_icmp .le 8, 3) := by decide +kernel
theorem dX6_quietestBy_60 : decode cX6_quietestBy 60 = .ok (.iload 10, 2) := by decide +kernel
theorem dX6_quietestBy_62 : decode cX6_quietestBy 62 = .ok (.goto 5, 3) := by decide +kernel
theorem dX6_quietestBy_65 : decode cX6_quietestBy 65 = .ok (.iload 8, 2) := by decide +kernel
theorem dX6_quietestBy_67 : decode cX6_quietestBy 67 = .ok (.istore 8, 2) := by decide +kernel
theorem dX6_quietestBy_69 : decode cX6_quietestBy 69 = .ok (.iload 9, 2) := by decide +kernel
theorem dX6_quietestBy_71 : decode cX6_quietestBy 71 = .ok (.iload 11, 2) := by decide +kernel
theorem dX6_quietestBy_73 : decode cX6_quietestBy 73 = .ok (.invokestatic 195, 3) := by decide +kernel
theorem dX6_quietestBy_76 : decode cX6_quietestBy 76 = .ok (.istore 9, 2) := by decide +kernel
theorem dX6_quietestBy_78 : decode cX6_quietestBy 78 = .ok (.iinc 10 1, 3) := by decide +kernel
theorem dX6_quietestBy_81 : decode cX6_quietestBy 81 = .ok (.goto (-53), 3) := by decide +kernel
theorem dX6_quietestBy_84 : decode cX6_quietestBy 84 = .ok (.aload_n 0, 1) := by decide +kernel
theorem dX6_quietestBy_85 : decode cX6_quietestBy 85 = .ok (.getfield 7, 3) := by decide +kernel
theorem dX6_quietestBy_88 : decode cX6_quietestBy 88 = .ok (.iload 6, 2) := by decide +kernel
theorem dX6_quietestBy_90 : decode cX6_quietestBy 90 = .ok (.iload 7, 2) := by decide +kernel
theorem dX6_quietestBy_92 : decode cX6_quietestBy 92 = .ok (.iastore, 1) := by decide +kernel
theorem dX6_quietestBy_93 : decode cX6_quietestBy 93 = .ok (.iload 8, 2) := by decide +kernel
theorem dX6_quietestBy_95 : decode cX6_quietestBy 95 = .ok (.ireturn, 1) := by decide +kernel
set_option maxRecDepth 20000 in
theorem ggX6_phaseFor_X6_isOne : GoodIn wsX6_phaseFor wsX6_isOne := goodIn_r _ [5, 6, 66, 67, 68, 69, 70, 71, 72, 73, 74, 75, 76, 77, 78, 79, 80, 81, 82, 83, 84, 85, 86, 87, 88, 89, 90, 91, 92] (by decide +kernel) (by decide +kernel)
set_option maxRecDepth 20000 in
theorem gX6_phaseFor_X6_isOne : GoodIn wsX6_phaseFor (wsV RX6 166 RX6 yX6_isOne wsX6_isOne) := goodIn_app (goodIn_of _ (by decide +kernel)) ggX6_phaseFor_X6_isOne
set_option maxRecDepth 20000 in
theorem ggX6_phaseFor_X6_isLong : GoodIn wsX6_phaseFor wsX6_isLong := goodIn_r _ [9, 10, 11, 12, 4, 13] (by decide +kernel) (by decide +kernel)
set_option maxRecDepth 20000 in
theorem gX6_phaseFor_X6_isLong : GoodIn wsX6_phaseFor (va_wsS RX6 219 yX6_isLong wsX6_isLong) := goodIn_app (goodIn_of _ (by decide +kernel)) ggX6_phaseFor_X6_isLong
set_option maxRecDepth 20000 in
theorem ggX6_phaseFor_X6_quietestBy : GoodIn wsX6_phaseFor wsX6_quietestBy := goodIn_r _ [17, 6, 18, 19, 20, 4, 21, 22, 23, 24, 25, 26, 27, 28, 29, 30, 31, 32, 33, 34, 35, 36, 37, 38, 39, 40, 41, 42, 43, 44, 45, 46, 47, 48, 49, 50, 51, 52, 53, 54, 55, 56, 57, 58, 59, 60, 61, 62, 63, 64, 65, 66, 67, 68, 69, 70, 71, 72, 73, 74, 75, 76, 77, 78, 79, 80, 81, 82, 83, 84, 85, 86, 87, 88, 89, 90, 91, 92] (by decide +kernel) (by decide +kernel)
set_option maxRecDepth 20000 in
theorem gX6_phaseFor_X6_quietestBy : GoodIn wsX6_phaseFor (wsV RX6 228 RX6 yX6_quietestBy wsX6_quietestBy) := goodIn_app (goodIn_of _ (by decide +kernel)) ggX6_phaseFor_X6_quietestBy
theorem dX6_phaseFor_0 : decode cX6_phaseFor 0 = .ok (.aload_n 0, 1) := by decide +kernel
theorem dX6_phaseFor_1 : decode cX6_phaseFor 1 = .ok (.iload_n 1, 1) := by decide +kernel
theorem dX6_phaseFor_2 : decode cX6_phaseFor 2 = .ok (.invokevirtual 166, 3) := by decide +kernel
theorem dX6_phaseFor_5 : decode cX6_phaseFor 5 = .ok (.ifCond .eq 23, 3) := by decide +kernel
theorem dX6_phaseFor_8 : decode cX6_phaseFor 8 = .ok (.iload_n 2, 1) := by decide +kernel
theorem dX6_phaseFor_9 : decode cX6_phaseFor 9 = .ok (.invokestatic 219, 3) := by decide +kernel
theorem dX6_phaseFor_12 : decode cX6_phaseFor 12 = .ok (.ifCond .eq 16, 3) := by decide +kernel
theorem dX6_phaseFor_15 : decode cX6_phaseFor 15 = .ok (.aload_n 0, 1) := by decide +kernel
theorem dX6_phaseFor_16 : decode cX6_phaseFor 16 = .ok (.iload_n 1, 1) := by decide +kernel
theorem dX6_phaseFor_17 : decode cX6_phaseFor 17 = .ok (.iconst 2, 1) := by decide +kernel
theorem dX6_phaseFor_18 : decode cX6_phaseFor 18 = .ok (.iconst 0, 1) := by decide +kernel
theorem dX6_phaseFor_19 : decode cX6_phaseFor 19 = .ok (.bipush 8, 2) := by decide +kernel
theorem dX6_phaseFor_21 : decode cX6_phaseFor 21 = .ok (.iload_n 2, 1) := by decide +kernel
theorem dX6_phaseFor_22 : decode cX6_phaseFor 22 = .ok (.invokevirtual 228, 3) := by decide +kernel
theorem dX6_phaseFor_25 : decode cX6_phaseFor 25 = .ok (.goto 4, 3) := by decide +kernel
theorem dX6_phaseFor_28 : decode cX6_phaseFor 28 = .ok (.iconst (-1), 1) := by decide +kernel
theorem dX6_phaseFor_29 : decode cX6_phaseFor 29 = .ok (.ireturn, 1) := by decide +kernel
set_option maxRecDepth 20000 in
theorem ggX6_beatFor_X6_isOne : GoodIn wsX6_beatFor wsX6_isOne := goodIn_r _ [5, 6, 66, 67, 68, 69, 70, 71, 72, 73, 74, 75, 76, 77, 78, 79, 80, 81, 82, 83, 84, 85, 86, 87, 88, 89, 90, 91, 92] (by decide +kernel) (by decide +kernel)
set_option maxRecDepth 20000 in
theorem gX6_beatFor_X6_isOne : GoodIn wsX6_beatFor (wsV RX6 166 RX6 yX6_isOne wsX6_isOne) := goodIn_app (goodIn_of _ (by decide +kernel)) ggX6_beatFor_X6_isOne
set_option maxRecDepth 20000 in
theorem ggX6_beatFor_X6_isLong : GoodIn wsX6_beatFor wsX6_isLong := goodIn_r _ [9, 10, 11, 12, 4, 13] (by decide +kernel) (by decide +kernel)
set_option maxRecDepth 20000 in
theorem gX6_beatFor_X6_isLong : GoodIn wsX6_beatFor (va_wsS RX6 219 yX6_isLong wsX6_isLong) := goodIn_app (goodIn_of _ (by decide +kernel)) ggX6_beatFor_X6_isLong
set_option maxRecDepth 20000 in
theorem ggX6_beatFor_X6_quietestBy : GoodIn wsX6_beatFor wsX6_quietestBy := goodIn_r _ [17, 6, 18, 19, 20, 4, 21, 22, 23, 24, 25, 26, 27, 28, 29, 30, 31, 32, 33, 34, 35, 36, 37, 38, 39, 40, 41, 42, 43, 44, 45, 46, 47, 48, 49, 50, 51, 52, 53, 54, 55, 56, 57, 58, 59, 60, 61, 62, 63, 64, 65, 66, 67, 68, 69, 70, 71, 72, 73, 74, 75, 76, 77, 78, 79, 80, 81, 82, 83, 84, 85, 86, 87, 88, 89, 90, 91, 92] (by decide +kernel) (by decide +kernel)
set_option maxRecDepth 20000 in
theorem gX6_beatFor_X6_quietestBy : GoodIn wsX6_beatFor (wsV RX6 228 RX6 yX6_quietestBy wsX6_quietestBy) := goodIn_app (goodIn_of _ (by decide +kernel)) ggX6_beatFor_X6_quietestBy
theorem dX6_beatFor_0 : decode cX6_beatFor 0 = .ok (.aload_n 0, 1) := by decide +kernel
theorem dX6_beatFor_1 : decode cX6_beatFor 1 = .ok (.iload_n 1, 1) := by decide +kernel
theorem dX6_beatFor_2 : decode cX6_beatFor 2 = .ok (.invokevirtual 166, 3) := by decide +kernel
theorem dX6_beatFor_5 : decode cX6_beatFor 5 = .ok (.ifCond .eq 23, 3) := by decide +kernel
theorem dX6_beatFor_8 : decode cX6_beatFor 8 = .ok (.iload_n 2, 1) := by decide +kernel
theorem dX6_beatFor_9 : decode cX6_beatFor 9 = .ok (.invokestatic 219, 3) := by decide +kernel
theorem dX6_beatFor_12 : decode cX6_beatFor 12 = .ok (.ifCond .eq 16, 3) := by decide +kernel
theorem dX6_beatFor_15 : decode cX6_beatFor 15 = .ok (.aload_n 0, 1) := by decide +kernel
theorem dX6_beatFor_16 : decode cX6_beatFor 16 = .ok (.iload_n 1, 1) := by decide +kernel
theorem dX6_beatFor_17 : decode cX6_beatFor 17 = .ok (.iconst 1, 1) := by decide +kernel
theorem dX6_beatFor_18 : decode cX6_beatFor 18 = .ok (.iconst 1, 1) := by decide +kernel
theorem dX6_beatFor_19 : decode cX6_beatFor 19 = .ok (.bipush 9, 2) := by decide +kernel
theorem dX6_beatFor_21 : decode cX6_beatFor 21 = .ok (.iload_n 2, 1) := by decide +kernel
theorem dX6_beatFor_22 : decode cX6_beatFor 22 = .ok (.invokevirtual 228, 3) := by decide +kernel
theorem dX6_beatFor_25 : decode cX6_beatFor 25 = .ok (.goto 4, 3) := by decide +kernel
theorem dX6_beatFor_28 : decode cX6_beatFor 28 = .ok (.iconst (-1), 1) := by decide +kernel
theorem dX6_beatFor_29 : decode cX6_beatFor 29 = .ok (.ireturn, 1) := by decide +kernel
set_option maxRecDepth 20000 in
theorem ggX6_kindFor_X6_isOne : GoodIn wsX6_kindFor wsX6_isOne := goodIn_r _ [5, 6, 66, 67, 68, 69, 70, 71, 72, 73, 74, 75, 76, 77, 78, 79, 80, 81, 82, 83, 84, 85, 86, 87, 88, 89, 90, 91, 92] (by decide +kernel) (by decide +kernel)
set_option maxRecDepth 20000 in
theorem gX6_kindFor_X6_isOne : GoodIn wsX6_kindFor (wsV RX6 166 RX6 yX6_isOne wsX6_isOne) := goodIn_app (goodIn_of _ (by decide +kernel)) ggX6_kindFor_X6_isOne
set_option maxRecDepth 20000 in
theorem ggX6_kindFor_X6_isLong : GoodIn wsX6_kindFor wsX6_isLong := goodIn_r _ [9, 10, 11, 12, 4, 13] (by decide +kernel) (by decide +kernel)
set_option maxRecDepth 20000 in
theorem gX6_kindFor_X6_isLong : GoodIn wsX6_kindFor (va_wsS RX6 219 yX6_isLong wsX6_isLong) := goodIn_app (goodIn_of _ (by decide +kernel)) ggX6_kindFor_X6_isLong
set_option maxRecDepth 20000 in
theorem ggX6_kindFor_X6_quietestBy : GoodIn wsX6_kindFor wsX6_quietestBy := goodIn_r _ [17, 6, 18, 19, 20, 4, 21, 22, 23, 24, 25, 26, 27, 28, 29, 30, 31, 32, 33, 34, 35, 36, 37, 38, 39, 40, 41, 42, 43, 44, 45, 46, 47, 48, 49, 50, 51, 52, 53, 54, 55, 56, 57, 58, 59, 60, 61, 62, 63, 64, 65, 66, 67, 68, 69, 70, 71, 72, 73, 74, 75, 76, 77, 78, 79, 80, 81, 82, 83, 84, 85, 86, 87, 88, 89, 90, 91, 92] (by decide +kernel) (by decide +kernel)
set_option maxRecDepth 20000 in
theorem gX6_kindFor_X6_quietestBy : GoodIn wsX6_kindFor (wsV RX6 228 RX6 yX6_quietestBy wsX6_quietestBy) := goodIn_app (goodIn_of _ (by decide +kernel)) ggX6_kindFor_X6_quietestBy
theorem dX6_kindFor_0 : decode cX6_kindFor 0 = .ok (.aload_n 0, 1) := by decide +kernel
theorem dX6_kindFor_1 : decode cX6_kindFor 1 = .ok (.iload_n 1, 1) := by decide +kernel
theorem dX6_kindFor_2 : decode cX6_kindFor 2 = .ok (.invokevirtual 166, 3) := by decide +kernel
theorem dX6_kindFor_5 : decode cX6_kindFor 5 = .ok (.ifCond .eq 22, 3) := by decide +kernel
theorem dX6_kindFor_8 : decode cX6_kindFor 8 = .ok (.iload_n 2, 1) := by decide +kernel
theorem dX6_kindFor_9 : decode cX6_kindFor 9 = .ok (.invokestatic 219, 3) := by decide +kernel
theorem dX6_kindFor_12 : decode cX6_kindFor 12 = .ok (.ifCond .eq 15, 3) := by decide +kernel
theorem dX6_kindFor_15 : decode cX6_kindFor 15 = .ok (.aload_n 0, 1) := by decide +kernel
theorem dX6_kindFor_16 : decode cX6_kindFor 16 = .ok (.iload_n 1, 1) := by decide +kernel
theorem dX6_kindFor_17 : decode cX6_kindFor 17 = .ok (.iconst 0, 1) := by decide +kernel
theorem dX6_kindFor_18 : decode cX6_kindFor 18 = .ok (.iconst 0, 1) := by decide +kernel
theorem dX6_kindFor_19 : decode cX6_kindFor 19 = .ok (.iconst 5, 1) := by decide +kernel
theorem dX6_kindFor_20 : decode cX6_kindFor 20 = .ok (.iload_n 2, 1) := by decide +kernel
theorem dX6_kindFor_21 : decode cX6_kindFor 21 = .ok (.invokevirtual 228, 3) := by decide +kernel
theorem dX6_kindFor_24 : decode cX6_kindFor 24 = .ok (.goto 4, 3) := by decide +kernel
theorem dX6_kindFor_27 : decode cX6_kindFor 27 = .ok (.iconst (-1), 1) := by decide +kernel
theorem dX6_kindFor_28 : decode cX6_kindFor 28 = .ok (.ireturn, 1) := by decide +kernel
set_option maxRecDepth 20000 in
theorem ggX6_isShort_X6_isIn : GoodIn wsX6_isShort wsX6_isIn := goodIn_r _ [5] (by decide +kernel) (by decide +kernel)
set_option maxRecDepth 20000 in
theorem gX6_isShort_X6_isIn : GoodIn wsX6_isShort (va_wsS RX6 57 yX6_isIn wsX6_isIn) := goodIn_app (goodIn_of _ (by decide +kernel)) ggX6_isShort_X6_isIn
theorem dX6_isShort_0 : decode cX6_isShort 0 = .ok (.iload_n 0, 1) := by decide +kernel
theorem dX6_isShort_1 : decode cX6_isShort 1 = .ok (.i2l, 1) := by decide +kernel
theorem dX6_isShort_2 : decode cX6_isShort 2 = .ok (.lconst 1, 1) := by decide +kernel
theorem dX6_isShort_3 : decode cX6_isShort 3 = .ok (.ldc2_w 211, 3) := by decide +kernel
theorem dX6_isShort_6 : decode cX6_isShort 6 = .ok (.invokestatic 57, 3) := by decide +kernel
theorem dX6_isShort_9 : decode cX6_isShort 9 = .ok (.ireturn, 1) := by decide +kernel
set_option maxRecDepth 20000 in
theorem ggX6_pairFor_X6_isOne : GoodIn wsX6_pairFor wsX6_isOne := goodIn_r _ [6, 1, 62, 63, 64, 65, 66, 67, 68, 69, 70, 71, 72, 73, 74, 75, 76, 77, 78, 79, 80, 81, 82, 83, 84, 85, 86, 87, 88] (by decide +kernel) (by decide +kernel)
set_option maxRecDepth 20000 in
theorem gX6_pairFor_X6_isOne : GoodIn wsX6_pairFor (wsV RX6 166 RX6 yX6_isOne wsX6_isOne) := goodIn_app (goodIn_of _ (by decide +kernel)) ggX6_pairFor_X6_isOne
set_option maxRecDepth 20000 in
theorem ggX6_pairFor_X6_isShort : GoodIn wsX6_pairFor wsX6_isShort := goodIn_r _ [9, 10, 11, 12, 5, 13] (by decide +kernel) (by decide +kernel)
set_option maxRecDepth 20000 in
theorem gX6_pairFor_X6_isShort : GoodIn wsX6_pairFor (va_wsS RX6 232 yX6_isShort wsX6_isShort) := goodIn_app (goodIn_of _ (by decide +kernel)) ggX6_pairFor_X6_isShort
set_option maxRecDepth 20000 in
theorem ggX6_pairFor_X6_lengthBy : GoodIn wsX6_pairFor wsX6_lengthBy := goodIn_r _ [17, 1, 18, 19, 20, 5, 21, 22, 23, 24, 25, 26, 27, 28, 29, 30, 31, 32, 33, 34, 35, 36, 37, 38, 39, 40, 41, 42, 43, 44, 45, 46, 47, 48, 49, 50, 51, 52, 53, 54, 55, 56, 57, 58, 59, 60, 61, 62, 63, 64, 65, 66, 67, 68, 69, 70, 71, 72, 73, 74, 75, 76, 77, 78, 79, 80, 81, 82, 83, 84, 85, 86, 87, 88] (by decide +kernel) (by decide +kernel)
set_option maxRecDepth 20000 in
theorem gX6_pairFor_X6_lengthBy : GoodIn wsX6_pairFor (wsV RX6 222 RX6 yX6_lengthBy wsX6_lengthBy) := goodIn_app (goodIn_of _ (by decide +kernel)) ggX6_pairFor_X6_lengthBy
set_option maxRecDepth 20000 in
theorem ggX6_pairFor_X6_greatest : GoodIn wsX6_pairFor wsX6_greatest := goodIn_r _ [61] (by decide +kernel) (by decide +kernel)
set_option maxRecDepth 20000 in
theorem gX6_pairFor_X6_greatest : GoodIn wsX6_pairFor (va_wsS RX6 195 yX6_greatest wsX6_greatest) := goodIn_app (goodIn_of _ (by decide +kernel)) ggX6_pairFor_X6_greatest
theorem dX6_pairFor_0 : decode cX6_pairFor 0 = .ok (.aload_n 0, 1) := by decide +kernel
theorem dX6_pairFor_1 : decode cX6_pairFor 1 = .ok (.iload_n 1, 1) := by decide +kernel
theorem dX6_pairFor_2 : decode cX6_pairFor 2 = .ok (.invokevirtual 166, 3) := by decide +kernel
theorem dX6_pairFor_5 : decode cX6_pairFor 5 = .ok (.ifCond .eq 23, 3) := by decide +kernel
theorem dX6_pairFor_8 : decode cX6_pairFor 8 = .ok (.aload_n 0, 1) := by decide +kernel
theorem dX6_pairFor_9 : decode cX6_pairFor 9 = .ok (.iload_n 2, 1) := by decide +kernel
theorem dX6_pairFor_10 : decode cX6_pairFor 10 = .ok (.invokevirtual 166, 3) := by decide +kernel
theorem dX6_pairFor_13 : decode cX6_pairFor 13 = .ok (.ifCond .eq 15, 3) := by decide +kernel
theorem dX6_pairFor_16 : decode cX6_pairFor 16 = .ok (.iload_n 1, 1) := by decide +kernel
theorem dX6_pairFor_17 : decode cX6_pairFor 17 = .ok (.iload_n 2, 1) := by decide +kernel
theorem dX6_pairFor_18 : decode cX6_pairFor 18 = .ok (.if_icmp .eq 10, 3) := by decide +kernel
theorem dX6_pairFor_21 : decode cX6_pairFor 21 = .ok (.iload_n 3, 1) := by decide +kernel
theorem dX6_pairFor_22 : decode cX6_pairFor 22 = .ok (.invokestatic 232, 3) := by decide +kernel
theorem dX6_pairFor_25 : decode cX6_pairFor 25 = .ok (.ifCond .ne 5, 3) := by decide +kernel
theorem dX6_pairFor_28 : decode cX6_pairFor 28 = .ok (.iconst (-1), 1) := by decide +kernel
theorem dX6_pairFor_29 : decode cX6_pairFor 29 = .ok (.ireturn, 1) := by decide +kernel
theorem dX6_pairFor_30 : decode cX6_pairFor 30 = .ok (.bipush 10, 2) := by decide +kernel
theorem dX6_pairFor_32 : decode cX6_pairFor 32 = .ok (.iconst 5, 1) := by decide +kernel
theorem dX6_pairFor_33 : decode cX6_pairFor 33 = .ok (.iload_n 1, 1) := by decide +kernel
theorem dX6_pairFor_34 : decode cX6_pairFor 34 = .ok (.imul, 1) := by decide +kernel
theorem dX6_pairFor_35 : decode cX6_pairFor 35 = .ok (.iadd, 1) := by decide +kernel
theorem dX6_pairFor_36 : decode cX6_pairFor 36 = .ok (.iconst 2, 1) := by decide +kernel
theorem dX6_pairFor_37 : decode cX6_pairFor 37 = .ok (.iadd, 1) := by decide +kernel
theorem dX6_pairFor_38 : decode cX6_pairFor 38 = .ok (.istore 4, 2) := by decide +kernel
theorem dX6_pairFor_40 : decode cX6_pairFor 40 = .ok (.bipush 10, 2) := by decide +kernel
theorem dX6_pairFor_42 : decode cX6_pairFor 42 = .ok (.iconst 5, 1) := by decide +kernel
theorem dX6_pairFor_43 : decode cX6_pairFor 43 = .ok (.iload_n 2, 1) := by decide +kernel
theorem dX6_pairFor_44 : decode cX6_pairFor 44 = .ok (.imul, 1) := by decide +kernel
theorem dX6_pairFor_45 : decode cX6_pairFor 45 = .ok (.iadd, 1) := by decide +kernel
theorem dX6_pairFor_46 : decode cX6_pairFor 46 = .ok (.iconst 2, 1) := by decide +kernel
theorem dX6_pairFor_47 : decode cX6_pairFor 47 = .ok (.iadd, 1) := by decide +kernel
theorem dX6_pairFor_48 : decode cX6_pairFor 48 = .ok (.istore 5, 2) := by decide +kernel
theorem dX6_pairFor_50 : decode cX6_pairFor 50 = .ok (.aload_n 0, 1) := by decide +kernel
theorem dX6_pairFor_51 : decode cX6_pairFor 51 = .ok (.getfield 7, 3) := by decide +kernel
theorem dX6_pairFor_54 : decode cX6_pairFor 54 = .ok (.iload 4, 2) := by decide +kernel
theorem dX6_pairFor_56 : decode cX6_pairFor 56 = .ok (.iaload, 1) := by decide +kernel
theorem dX6_pairFor_57 : decode cX6_pairFor 57 = .ok (.istore 6, 2) := by decide +kernel
theorem dX6_pairFor_59 : decode cX6_pairFor 59 = .ok (.aload_n 0, 1) := by decide +kernel
theorem dX6_pairFor_60 : decode cX6_pairFor 60 = .ok (.getfield 7, 3) := by decide +kernel
theorem dX6_pairFor_63 : decode cX6_pairFor 63 = .ok (.iload 5, 2) := by decide +kernel
theorem dX6_pairFor_65 : decode cX6_pairFor 65 = .ok (.iaload, 1) := by decide +kernel
theorem dX6_pairFor_66 : decode cX6_pairFor 66 = .ok (.istore 7, 2) := by decide +kernel
theorem dX6_pairFor_68 : decode cX6_pairFor 68 = .ok (.iconst 0, 1) := by decide +kernel
theorem dX6_pairFor_69 : decode cX6_pairFor 69 = .ok (.istore 8, 2) := by decide +kernel
theorem dX6_pairFor_71 : decode cX6_pairFor 71 = .ok (.iconst (-1), 1) := by decide +kernel
theorem dX6_pairFor_72 : decode cX6_pairFor 72 = .ok (.istore 9, 2) := by decide +kernel
theorem dX6_pairFor_74 : decode cX6_pairFor 74 = .ok (.iconst 0, 1) := by decide +kernel
theorem dX6_pairFor_75 : decode cX6_pairFor 75 = .ok (.istore 10, 2) := by decide +kernel
theorem dX6_pairFor_77 : decode cX6_pairFor 77 = .ok (.iload 10, 2) := by decide +kernel
theorem dX6_pairFor_79 : decode cX6_pairFor 79 = .ok (.bipush 81, 2) := by decide +kernel
theorem dX6_pairFor_81 : decode cX6_pairFor 81 = .ok (.if_icmp .ge 78, 3) := by decide +kernel
theorem dX6_pairFor_84 : decode cX6_pairFor 84 = .ok (.aload_n 0, 1) := by decide +kernel
theorem dX6_pairFor_85 : decode cX6_pairFor 85 = .ok (.getfield 7, 3) := by decide +kernel
theorem dX6_pairFor_88 : decode cX6_pairFor 88 = .ok (.iload 4, 2) := by decide +kernel
theorem dX6_pairFor_90 : decode cX6_pairFor 90 = .ok (.iload 10, 2) := by decide +kernel
theorem dX6_pairFor_92 : decode cX6_pairFor 92 = .ok (.bipush 9, 2) := by decide +kernel
theorem dX6_pairFor_94 : decode cX6_pairFor 94 = .ok (.idiv, 1) := by decide +kernel
theorem dX6_pairFor_95 : decode cX6_pairFor 95 = .ok (.iastore, 1) := by decide +kernel
theorem dX6_pairFor_96 : decode cX6_pairFor 96 = .ok (.aload_n 0, 1) := by decide +kernel
theorem dX6_pairFor_97 : decode cX6_pairFor 97 = .ok (.getfield 7, 3) := by decide +kernel
theorem dX6_pairFor_100 : decode cX6_pairFor 100 = .ok (.iload 5, 2) := by decide +kernel
theorem dX6_pairFor_102 : decode cX6_pairFor 102 = .ok (.iload 10, 2) := by decide +kernel
theorem dX6_pairFor_104 : decode cX6_pairFor 104 = .ok (.bipush 9, 2) := by decide +kernel
theorem dX6_pairFor_106 : decode cX6_pairFor 106 = .ok (.irem, 1) := by decide +kernel
theorem dX6_pairFor_107 : decode cX6_pairFor 107 = .ok (.iastore, 1) := by decide +kernel
theorem dX6_pairFor_108 : decode cX6_pairFor 108 = .ok (.aload_n 0, 1) := by decide +kernel
theorem dX6_pairFor_109 : decode cX6_pairFor 109 = .ok (.iload_n 3, 1) := by decide +kernel
theorem dX6_pairFor_110 : decode cX6_pairFor 110 = .ok (.iconst 0, 1) := by decide +kernel
theorem dX6_pairFor_111 : decode cX6_pairFor 111 = .ok (.invokevirtual 222, 3) := by decide +kernel
theorem dX6_pairFor_114 : decode cX6_pairFor 114 = .ok (.istore 11, 2) := by decide +kernel
theorem dX6_pairFor_116 : decode cX6_pairFor 116 = .ok (.iload 11, 2) := by decide +kernel
theorem dX6_pairFor_118 : decode cX6_pairFor 118 = .ok (.iload 9, 2) := by decide +kernel
theorem dX6_pairFor_120 : decode cX6_pairFor 120 = .ok (.if_icmp .le 20, 3) := by decide +kernel
theorem dX6_pairFor_123 : decode cX6_pairFor 123 = .ok (.iload 10, 2) := by decide +kernel
theorem dX6_pairFor_125 : decode cX6_pairFor 125 = .ok (.bipush 9, 2) := by decide +kernel
theorem dX6_pairFor_127 : decode cX6_pairFor 127 = .ok (.idiv, 1) := by decide +kernel
theorem dX6_pairFor_128 : decode cX6_pairFor 128 = .ok (.bipush 10, 2) := by decide +kernel
theorem dX6_pairFor_130 : decode cX6_pairFor 130 = .ok (.imul, 1) := by decide +kernel
theorem dX6_pairFor_131 : decode cX6_pairFor 131 = .ok (.iload 10, 2) := by decide +kernel
theorem dX6_pairFor_133 : decode cX6_pairFor 133 = .ok (.bipush 9, 2) := by decide +kernel
theorem dX6_pairFor_135 : decode cX6_pairFor 135 = .ok (.irem, 1) := by decide +kernel
theorem dX6_pairFor_136 : decode cX6_pairFor 136 = .ok (.iadd, 1) := by decide +kernel
theorem dX6_pairFor_137 : decode cX6_pairFor 137 = .ok (.goto 5, 3) := by decide +kernel
theorem dX6_pairFor_140 : decode cX6_pairFor 140 = .ok (.iload 8, 2) := by decide +kernel
theorem dX6_pairFor_142 : decode cX6_pairFor 142 = .ok (.istore 8, 2) := by decide +kernel
theorem dX6_pairFor_144 : decode cX6_pairFor 144 = .ok (.iload 9, 2) := by decide +kernel
theorem dX6_pairFor_146 : decode cX6_pairFor 146 = .ok (.iload 11, 2) := by decide +kernel
theorem dX6_pairFor_148 : decode cX6_pairFor 148 = .ok (.invokestatic 195, 3) := by decide +kernel
theorem dX6_pairFor_151 : decode cX6_pairFor 151 = .ok (.istore 9, 2) := by decide +kernel
theorem dX6_pairFor_153 : decode cX6_pairFor 153 = .ok (.iinc 10 1, 3) := by decide +kernel
theorem dX6_pairFor_156 : decode cX6_pairFor 156 = .ok (.goto (-79), 3) := by decide +kernel
theorem dX6_pairFor_159 : decode cX6_pairFor 159 = .ok (.aload_n 0, 1) := by decide +kernel
theorem dX6_pairFor_160 : decode cX6_pairFor 160 = .ok (.getfield 7, 3) := by decide +kernel
theorem dX6_pairFor_163 : decode cX6_pairFor 163 = .ok (.iload 4, 2) := by decide +kernel
theorem dX6_pairFor_165 : decode cX6_pairFor 165 = .ok (.iload 6, 2) := by decide +kernel
theorem dX6_pairFor_167 : decode cX6_pairFor 167 = .ok (.iastore, 1) := by decide +kernel
theorem dX6_pairFor_168 : decode cX6_pairFor 168 = .ok (.aload_n 0, 1) := by decide +kernel
theorem dX6_pairFor_169 : decode cX6_pairFor 169 = .ok (.getfield 7, 3) := by decide +kernel
theorem dX6_pairFor_172 : decode cX6_pairFor 172 = .ok (.iload 5, 2) := by decide +kernel
theorem dX6_pairFor_174 : decode cX6_pairFor 174 = .ok (.iload 7, 2) := by decide +kernel
theorem dX6_pairFor_176 : decode cX6_pairFor 176 = .ok (.iastore, 1) := by decide +kernel
theorem dX6_pairFor_177 : decode cX6_pairFor 177 = .ok (.iload 8, 2) := by decide +kernel
theorem dX6_pairFor_179 : decode cX6_pairFor 179 = .ok (.ireturn, 1) := by decide +kernel
set_option maxRecDepth 20000 in
theorem ggX6_awayFor_X6_isShort : GoodIn wsX6_awayFor wsX6_isShort := goodIn_r _ [6, 7, 8, 9, 5, 10] (by decide +kernel) (by decide +kernel)
set_option maxRecDepth 20000 in
theorem gX6_awayFor_X6_isShort : GoodIn wsX6_awayFor (va_wsS RX6 232 yX6_isShort wsX6_isShort) := goodIn_app (goodIn_of _ (by decide +kernel)) ggX6_awayFor_X6_isShort
set_option maxRecDepth 20000 in
theorem ggX6_awayFor_X6_isIn : GoodIn wsX6_awayFor wsX6_isIn := goodIn_r _ [10] (by decide +kernel) (by decide +kernel)
set_option maxRecDepth 20000 in
theorem gX6_awayFor_X6_isIn : GoodIn wsX6_awayFor (va_wsS RX6 57 yX6_isIn wsX6_isIn) := goodIn_app (goodIn_of _ (by decide +kernel)) ggX6_awayFor_X6_isIn
set_option maxRecDepth 20000 in
theorem ggX6_awayFor_X6_size : GoodIn wsX6_awayFor wsX6_size := goodIn_r _ [13] (by decide +kernel) (by decide +kernel)
set_option maxRecDepth 20000 in
theorem gX6_awayFor_X6_size : GoodIn wsX6_awayFor (va_wsS RX6 192 yX6_size wsX6_size) := goodIn_app (goodIn_of _ (by decide +kernel)) ggX6_awayFor_X6_size
set_option maxRecDepth 20000 in
theorem ggX6_awayFor_X6_lengthBy : GoodIn wsX6_awayFor wsX6_lengthBy := goodIn_r _ [17, 2, 18, 19, 20, 5, 21, 22, 23, 24, 25, 26, 27, 28, 29, 30, 31, 32, 33, 34, 35, 36, 37, 38, 39, 40, 41, 42, 43, 44, 45, 46, 47, 48, 49, 50, 51, 52, 53, 54, 55, 11, 12, 13, 56, 57, 58, 59, 60, 61, 62, 63, 64, 65, 66, 67, 68, 69, 70, 71, 72, 73, 74, 75, 76, 77, 78, 79, 80, 81, 82, 83, 84, 85] (by decide +kernel) (by decide +kernel)
set_option maxRecDepth 20000 in
theorem gX6_awayFor_X6_lengthBy : GoodIn wsX6_awayFor (wsV RX6 222 RX6 yX6_lengthBy wsX6_lengthBy) := goodIn_app (goodIn_of _ (by decide +kernel)) ggX6_awayFor_X6_lengthBy
theorem dX6_awayFor_0 : decode cX6_awayFor 0 = .ok (.iload_n 1, 1) := by decide +kernel
theorem dX6_awayFor_1 : decode cX6_awayFor 1 = .ok (.invokestatic 232, 3) := by decide +kernel
theorem dX6_awayFor_4 : decode cX6_awayFor 4 = .ok (.ifCond .eq 15, 3) := by decide +kernel
theorem dX6_awayFor_7 : decode cX6_awayFor 7 = .ok (.iload_n 2, 1) := by decide +kernel
theorem dX6_awayFor_8 : decode cX6_awayFor 8 = .ok (.i2l, 1) := by decide +kernel
theorem dX6_awayFor_9 : decode cX6_awayFor 9 = .ok (.lconst 0, 1) := by decide +kernel
theorem dX6_awayFor_10 : decode cX6_awayFor 10 = .ok (.ldc2_w 152, 3) := by decide +kernel
theorem dX6_awayFor_13 : decode cX6_awayFor 13 = .ok (.invokestatic 57, 3) := by decide +kernel
theorem dX6_awayFor_16 : decode cX6_awayFor 16 = .ok (.ifCond .ne 5, 3) := by decide +kernel
theorem dX6_awayFor_19 : decode cX6_awayFor 19 = .ok (.iconst (-1), 1) := by decide +kernel
theorem dX6_awayFor_20 : decode cX6_awayFor 20 = .ok (.ireturn, 1) := by decide +kernel
theorem dX6_awayFor_21 : decode cX6_awayFor 21 = .ok (.bipush (-3), 2) := by decide +kernel
theorem dX6_awayFor_23 : decode cX6_awayFor 23 = .ok (.istore_n 3, 1) := by decide +kernel
theorem dX6_awayFor_24 : decode cX6_awayFor 24 = .ok (.iconst 0, 1) := by decide +kernel
theorem dX6_awayFor_25 : decode cX6_awayFor 25 = .ok (.istore 4, 2) := by decide +kernel
theorem dX6_awayFor_27 : decode cX6_awayFor 27 = .ok (.iload 4, 2) := by decide +kernel
theorem dX6_awayFor_29 : decode cX6_awayFor 29 = .ok (.iconst 1, 1) := by decide +kernel
theorem dX6_awayFor_30 : decode cX6_awayFor 30 = .ok (.aload_n 0, 1) := by decide +kernel
theorem dX6_awayFor_31 : decode cX6_awayFor 31 = .ok (.getfield 7, 3) := by decide +kernel
theorem dX6_awayFor_34 : decode cX6_awayFor 34 = .ok (.iconst 0, 1) := by decide +kernel
theorem dX6_awayFor_35 : decode cX6_awayFor 35 = .ok (.iaload, 1) := by decide +kernel
theorem dX6_awayFor_36 : decode cX6_awayFor 36 = .ok (.ishl, 1) := by decide +kernel
theorem dX6_awayFor_37 : decode cX6_awayFor 37 = .ok (.if_icmp .ge 43, 3) := by decide +kernel
theorem dX6_awayFor_40 : decode cX6_awayFor 40 = .ok (.iload_n 3, 1) := by decide +kernel
theorem dX6_awayFor_41 : decode cX6_awayFor 41 = .ok (.ifCond .lt 15, 3) := by decide +kernel
theorem dX6_awayFor_44 : decode cX6_awayFor 44 = .ok (.iload 4, 2) := by decide +kernel
theorem dX6_awayFor_46 : decode cX6_awayFor 46 = .ok (.invokestatic 192, 3) := by decide +kernel
theorem dX6_awayFor_49 : decode cX6_awayFor 49 = .ok (.iload_n 3, 1) := by decide +kernel
theorem dX6_awayFor_50 : decode cX6_awayFor 50 = .ok (.invokestatic 192, 3) := by decide +kernel
theorem dX6_awayFor_53 : decode cX6_awayFor 53 = .ok (.if_icmp .ge 19, 3) := by decide +kernel
theorem dX6_awayFor_56 : decode cX6_awayFor 56 = .ok (.aload_n 0, 1) := by decide +kernel
theorem dX6_awayFor_57 : decode cX6_awayFor 57 = .ok (.iload_n 1, 1) := by decide +kernel
theorem dX6_awayFor_58 : decode cX6_awayFor 58 = .ok (.iload 4, 2) := by decide +kernel
theorem dX6_awayFor_60 : decode cX6_awayFor 60 = .ok (.invokevirtual 222, 3) := by decide +kernel
theorem dX6_awayFor_63 : decode cX6_awayFor 63 = .ok (.iload_n 2, 1) := by decide +kernel
theorem dX6_awayFor_64 : decode cX6_awayFor 64 = .ok (.if_icmp .lt 8, 3) := by decide +kernel
theorem dX6_awayFor_67 : decode cX6_awayFor 67 = .ok (.iload 4, 2) := by decide +kernel
theorem dX6_awayFor_69 : decode cX6_awayFor 69 = .ok (.goto 4, 3) := by decide +kernel
theorem dX6_awayFor_72 : decode cX6_awayFor 72 = .ok (.iload_n 3, 1) := by decide +kernel
theorem dX6_awayFor_73 : decode cX6_awayFor 73 = .ok (.istore_n 3, 1) := by decide +kernel
theorem dX6_awayFor_74 : decode cX6_awayFor 74 = .ok (.iinc 4 1, 3) := by decide +kernel
theorem dX6_awayFor_77 : decode cX6_awayFor 77 = .ok (.goto (-50), 3) := by decide +kernel
theorem dX6_awayFor_80 : decode cX6_awayFor 80 = .ok (.iload_n 3, 1) := by decide +kernel
theorem dX6_awayFor_81 : decode cX6_awayFor 81 = .ok (.ireturn, 1) := by decide +kernel
set_option maxRecDepth 20000 in
theorem ggX6_listens_X6_copyRow : GoodIn wsX6_listens wsX6_copyRow := goodIn_r _ [7] (by decide +kernel) (by decide +kernel)
set_option maxRecDepth 20000 in
theorem gX6_listens_X6_copyRow : GoodIn wsX6_listens (va_wsS RX6 138 yX6_copyRow wsX6_copyRow) := goodIn_app (goodIn_of _ (by decide +kernel)) ggX6_listens_X6_copyRow
set_option maxRecDepth 20000 in
theorem ggX6_listens_X6_sounding : GoodIn wsX6_listens wsX6_sounding := goodIn_r _ [11, 1, 12, 13, 14, 6, 15, 16, 17, 18, 19, 44, 45, 46, 47, 48, 49, 50, 51, 52, 53, 54, 55, 56, 57, 58, 59, 60, 61, 62, 63, 64, 65, 66, 67, 68, 69, 70] (by decide +kernel) (by decide +kernel)
set_option maxRecDepth 20000 in
theorem gX6_listens_X6_sounding : GoodIn wsX6_listens (wsV RX6 186 RX6 yX6_sounding wsX6_sounding) := goodIn_app (goodIn_of _ (by decide +kernel)) ggX6_listens_X6_sounding
set_option maxRecDepth 20000 in
theorem ggX6_listens_X6_heardOf : GoodIn wsX6_listens wsX6_heardOf := goodIn_r _ [23, 1, 16, 17, 18, 6, 19, 24, 25, 26, 27, 28, 29, 30, 31, 32, 33, 44, 45, 46, 47, 48, 49, 50, 51, 52, 53, 54, 55, 56, 57, 58, 59, 60, 61, 62, 63, 64, 65, 66, 67, 68, 69, 70] (by decide +kernel) (by decide +kernel)
set_option maxRecDepth 20000 in
theorem gX6_listens_X6_heardOf : GoodIn wsX6_listens (wsV RX6 189 RX6 yX6_heardOf wsX6_heardOf) := goodIn_app (goodIn_of _ (by decide +kernel)) ggX6_listens_X6_heardOf
set_option maxRecDepth 20000 in
theorem ggX6_listens_X6_goesBy : GoodIn wsX6_listens wsX6_goesBy := goodIn_r _ [37, 1, 16, 17, 18, 6, 19, 20, 21, 22, 23, 24, 25, 26, 27, 28, 29, 30, 31, 32, 33, 38, 39, 40, 41, 42, 43, 44, 45, 46, 47, 48, 49, 50, 51, 52, 53, 54, 55, 56, 57, 58, 59, 60, 61, 62, 63, 64, 65, 66, 67, 68, 69, 70] (by decide +kernel) (by decide +kernel)
set_option maxRecDepth 20000 in
theorem gX6_listens_X6_goesBy : GoodIn wsX6_listens (wsV RX6 198 RX6 yX6_goesBy wsX6_goesBy) := goodIn_app (goodIn_of _ (by decide +kernel)) ggX6_listens_X6_goesBy
theorem dX6_listens_0 : decode cX6_listens 0 = .ok (.aload_n 0, 1) := by decide +kernel
theorem dX6_listens_1 : decode cX6_listens 1 = .ok (.getfield 7, 3) := by decide +kernel
theorem dX6_listens_4 : decode cX6_listens 4 = .ok (.aload_n 0, 1) := by decide +kernel
theorem dX6_listens_5 : decode cX6_listens 5 = .ok (.getfield 16, 3) := by decide +kernel
theorem dX6_listens_8 : decode cX6_listens 8 = .ok (.invokestatic 138, 3) := by decide +kernel
theorem dX6_listens_11 : decode cX6_listens 11 = .ok (.iconst 0, 1) := by decide +kernel
theorem dX6_listens_12 : decode cX6_listens 12 = .ok (.istore_n 2, 1) := by decide +kernel
theorem dX6_listens_13 : decode cX6_listens 13 = .ok (.iload_n 2, 1) := by decide +kernel
theorem dX6_listens_14 : decode cX6_listens 14 = .ok (.bipush 12, 2) := by decide +kernel
theorem dX6_listens_16 : decode cX6_listens 16 = .ok (.if_icmp .ge 16, 3) := by decide +kernel
theorem dX6_listens_19 : decode cX6_listens 19 = .ok (.aload_n 0, 1) := by decide +kernel
theorem dX6_listens_20 : decode cX6_listens 20 = .ok (.getfield 25, 3) := by decide +kernel
theorem dX6_listens_23 : decode cX6_listens 23 = .ok (.iload_n 2, 1) := by decide +kernel
theorem dX6_listens_24 : decode cX6_listens 24 = .ok (.iconst 0, 1) := by decide +kernel
theorem dX6_listens_25 : decode cX6_listens 25 = .ok (.iastore, 1) := by decide +kernel
theorem dX6_listens_26 : decode cX6_listens 26 = .ok (.iinc 2 1, 3) := by decide +kernel
theorem dX6_listens_29 : decode cX6_listens 29 = .ok (.goto (-16), 3) := by decide +kernel
theorem dX6_listens_32 : decode cX6_listens 32 = .ok (.iconst 0, 1) := by decide +kernel
theorem dX6_listens_33 : decode cX6_listens 33 = .ok (.istore_n 2, 1) := by decide +kernel
theorem dX6_listens_34 : decode cX6_listens 34 = .ok (.iload_n 2, 1) := by decide +kernel
theorem dX6_listens_35 : decode cX6_listens 35 = .ok (.iload_n 1, 1) := by decide +kernel
theorem dX6_listens_36 : decode cX6_listens 36 = .ok (.if_icmp .ge 60, 3) := by decide +kernel
theorem dX6_listens_39 : decode cX6_listens 39 = .ok (.aload_n 0, 1) := by decide +kernel
theorem dX6_listens_40 : decode cX6_listens 40 = .ok (.invokevirtual 186, 3) := by decide +kernel
theorem dX6_listens_43 : decode cX6_listens 43 = .ok (.istore_n 3, 1) := by decide +kernel
theorem dX6_listens_44 : decode cX6_listens 44 = .ok (.iconst 0, 1) := by decide +kernel
theorem dX6_listens_45 : decode cX6_listens 45 = .ok (.istore 4, 2) := by decide +kernel
theorem dX6_listens_47 : decode cX6_listens 47 = .ok (.iload 4, 2) := by decide +kernel
theorem dX6_listens_49 : decode cX6_listens 49 = .ok (.bipush 12, 2) := by decide +kernel
theorem dX6_listens_51 : decode cX6_listens 51 = .ok (.if_icmp .ge 34, 3) := by decide +kernel
theorem dX6_listens_54 : decode cX6_listens 54 = .ok (.aload_n 0, 1) := by decide +kernel
theorem dX6_listens_55 : decode cX6_listens 55 = .ok (.getfield 25, 3) := by decide +kernel
theorem dX6_listens_58 : decode cX6_listens 58 = .ok (.iload 4, 2) := by decide +kernel
theorem dX6_listens_60 : decode cX6_listens 60 = .ok (.dup2, 1) := by decide +kernel
theorem dX6_listens_61 : decode cX6_listens 61 = .ok (.iaload, 1) := by decide +kernel
theorem dX6_listens_62 : decode cX6_listens 62 = .ok (.aload_n 0, 1) := by decide +kernel
theorem dX6_listens_63 : decode cX6_listens 63 = .ok (.iload_n 3, 1) := by decide +kernel
theorem dX6_listens_64 : decode cX6_listens 64 = .ok (.iload 4, 2) := by decide +kernel
theorem dX6_listens_66 : decode cX6_listens 66 = .ok (.invokevirtual 189, 3) := by decide +kernel
theorem dX6_listens_69 : decode cX6_listens 69 = .ok (.ifCond .ne 7, 3) := by decide +kernel
theorem dX6_listens_72 : decode cX6_listens 72 = .ok (.iconst 0, 1) := by decide +kernel
theorem dX6_listens_73 : decode cX6_listens 73 = .ok (.goto 4, 3) := by decide +kernel
theorem dX6_listens_76 : decode cX6_listens 76 = .ok (.iconst 1, 1) := by decide +kernel
theorem dX6_listens_77 : decode cX6_listens 77 = .ok (.iadd, 1) := by decide +kernel
theorem dX6_listens_78 : decode cX6_listens 78 = .ok (.iastore, 1) := by decide +kernel
theorem dX6_listens_79 : decode cX6_listens 79 = .ok (.iinc 4 1, 3) := by decide +kernel
theorem dX6_listens_82 : decode cX6_listens 82 = .ok (.goto (-35), 3) := by decide +kernel
theorem dX6_listens_85 : decode cX6_listens 85 = .ok (.aload_n 0, 1) := by decide +kernel
theorem dX6_listens_86 : decode cX6_listens 86 = .ok (.iload_n 3, 1) := by decide +kernel
theorem dX6_listens_87 : decode cX6_listens 87 = .ok (.invokevirtual 198, 3) := by decide +kernel
theorem dX6_listens_90 : decode cX6_listens 90 = .ok (.iinc 2 1, 3) := by decide +kernel
theorem dX6_listens_93 : decode cX6_listens 93 = .ok (.goto (-59), 3) := by decide +kernel
theorem dX6_listens_96 : decode cX6_listens 96 = .ok (.aload_n 0, 1) := by decide +kernel
theorem dX6_listens_97 : decode cX6_listens 97 = .ok (.getfield 16, 3) := by decide +kernel
theorem dX6_listens_100 : decode cX6_listens 100 = .ok (.aload_n 0, 1) := by decide +kernel
theorem dX6_listens_101 : decode cX6_listens 101 = .ok (.getfield 7, 3) := by decide +kernel
theorem dX6_listens_104 : decode cX6_listens 104 = .ok (.invokestatic 138, 3) := by decide +kernel
theorem dX6_listens_107 : decode cX6_listens 107 = .ok (.return_, 1) := by decide +kernel
set_option maxRecDepth 20000 in
theorem ggX6_heard_X6_isCorner : GoodIn wsX6_heard wsX6_isCorner := goodIn_r _ [5] (by decide +kernel) (by decide +kernel)
set_option maxRecDepth 20000 in
theorem gX6_heard_X6_isCorner : GoodIn wsX6_heard (va_wsS RX6 160 yX6_isCorner wsX6_isCorner) := goodIn_app (goodIn_of _ (by decide +kernel)) ggX6_heard_X6_isCorner
set_option maxRecDepth 20000 in
theorem ggX6_heard_X6_isLong : GoodIn wsX6_heard wsX6_isLong := goodIn_r _ [8, 9, 10, 11, 4, 12] (by decide +kernel) (by decide +kernel)
set_option maxRecDepth 20000 in
theorem gX6_heard_X6_isLong : GoodIn wsX6_heard (va_wsS RX6 219 yX6_isLong wsX6_isLong) := goodIn_app (goodIn_of _ (by decide +kernel)) ggX6_heard_X6_isLong
set_option maxRecDepth 20000 in
theorem ggX6_heard_X6_listens : GoodIn wsX6_heard wsX6_listens := goodIn_r _ [16, 17, 18, 1, 19, 20, 4, 21, 22, 23, 24, 25, 26, 27, 28, 29, 30, 31, 32, 33, 34, 35, 36, 37, 38, 39, 40, 41, 42, 43, 44, 45, 46, 47, 48, 49, 50, 51, 52, 53, 54, 55, 56, 57, 58, 59, 60, 61, 62, 63, 64, 65, 66, 67, 68, 69, 70, 71, 72, 73, 74, 75, 76, 77, 78, 79, 80, 81, 82, 83, 84] (by decide +kernel) (by decide +kernel)
set_option maxRecDepth 20000 in
theorem gX6_heard_X6_listens : GoodIn wsX6_heard (wsV RX6 235 RX6 yX6_listens wsX6_listens) := goodIn_app (goodIn_of _ (by decide +kernel)) ggX6_heard_X6_listens
theorem dX6_heard_0 : decode cX6_heard 0 = .ok (.iload_n 1, 1) := by decide +kernel
theorem dX6_heard_1 : decode cX6_heard 1 = .ok (.invokestatic 160, 3) := by decide +kernel
theorem dX6_heard_4 : decode cX6_heard 4 = .ok (.ifCond .eq 10, 3) := by decide +kernel
theorem dX6_heard_7 : decode cX6_heard 7 = .ok (.iload_n 2, 1) := by decide +kernel
theorem dX6_heard_8 : decode cX6_heard 8 = .ok (.invokestatic 219, 3) := by decide +kernel
theorem dX6_heard_11 : decode cX6_heard 11 = .ok (.ifCond .ne 5, 3) := by decide +kernel
theorem dX6_heard_14 : decode cX6_heard 14 = .ok (.iconst (-1), 1) := by decide +kernel
theorem dX6_heard_15 : decode cX6_heard 15 = .ok (.ireturn, 1) := by decide +kernel
theorem dX6_heard_16 : decode cX6_heard 16 = .ok (.aload_n 0, 1) := by decide +kernel
theorem dX6_heard_17 : decode cX6_heard 17 = .ok (.iload_n 2, 1) := by decide +kernel
theorem dX6_heard_18 : decode cX6_heard 18 = .ok (.invokevirtual 235, 3) := by decide +kernel
theorem dX6_heard_21 : decode cX6_heard 21 = .ok (.aload_n 0, 1) := by decide +kernel
theorem dX6_heard_22 : decode cX6_heard 22 = .ok (.getfield 25, 3) := by decide +kernel
theorem dX6_heard_25 : decode cX6_heard 25 = .ok (.iload_n 1, 1) := by decide +kernel
theorem dX6_heard_26 : decode cX6_heard 26 = .ok (.iaload, 1) := by decide +kernel
theorem dX6_heard_27 : decode cX6_heard 27 = .ok (.ireturn, 1) := by decide +kernel
set_option maxRecDepth 20000 in
theorem ggX6_calm_X6_isLong : GoodIn wsX6_calm wsX6_isLong := goodIn_r _ [5, 6, 7, 8, 4, 9] (by decide +kernel) (by decide +kernel)
set_option maxRecDepth 20000 in
theorem gX6_calm_X6_isLong : GoodIn wsX6_calm (va_wsS RX6 219 yX6_isLong wsX6_isLong) := goodIn_app (goodIn_of _ (by decide +kernel)) ggX6_calm_X6_isLong
set_option maxRecDepth 20000 in
theorem ggX6_calm_X6_listens : GoodIn wsX6_calm wsX6_listens := goodIn_r _ [13, 14, 15, 1, 16, 17, 4, 18, 19, 20, 21, 22, 23, 24, 25, 26, 27, 28, 29, 30, 31, 32, 33, 34, 35, 36, 37, 38, 39, 40, 41, 42, 43, 44, 45, 46, 47, 48, 49, 50, 51, 52, 53, 54, 55, 56, 57, 58, 59, 60, 61, 62, 63, 64, 65, 66, 67, 68, 69, 70, 71, 72, 73, 74, 75, 76, 77, 78, 79, 80, 81] (by decide +kernel) (by decide +kernel)
set_option maxRecDepth 20000 in
theorem gX6_calm_X6_listens : GoodIn wsX6_calm (wsV RX6 235 RX6 yX6_listens wsX6_listens) := goodIn_app (goodIn_of _ (by decide +kernel)) ggX6_calm_X6_listens
theorem dX6_calm_0 : decode cX6_calm 0 = .ok (.iload_n 1, 1) := by decide +kernel
theorem dX6_calm_1 : decode cX6_calm 1 = .ok (.invokestatic 219, 3) := by decide +kernel
theorem dX6_calm_4 : decode cX6_calm 4 = .ok (.ifCond .ne 5, 3) := by decide +kernel
theorem dX6_calm_7 : decode cX6_calm 7 = .ok (.iconst (-1), 1) := by decide +kernel
theorem dX6_calm_8 : decode cX6_calm 8 = .ok (.ireturn, 1) := by decide +kernel
theorem dX6_calm_9 : decode cX6_calm 9 = .ok (.aload_n 0, 1) := by decide +kernel
theorem dX6_calm_10 : decode cX6_calm 10 = .ok (.iload_n 1, 1) := by decide +kernel
theorem dX6_calm_11 : decode cX6_calm 11 = .ok (.invokevirtual 235, 3) := by decide +kernel
theorem dX6_calm_14 : decode cX6_calm 14 = .ok (.iconst 0, 1) := by decide +kernel
theorem dX6_calm_15 : decode cX6_calm 15 = .ok (.istore_n 2, 1) := by decide +kernel
theorem dX6_calm_16 : decode cX6_calm 16 = .ok (.iconst 1, 1) := by decide +kernel
theorem dX6_calm_17 : decode cX6_calm 17 = .ok (.istore_n 3, 1) := by decide +kernel
theorem dX6_calm_18 : decode cX6_calm 18 = .ok (.iload_n 3, 1) := by decide +kernel
theorem dX6_calm_19 : decode cX6_calm 19 = .ok (.bipush 12, 2) := by decide +kernel
theorem dX6_calm_21 : decode cX6_calm 21 = .ok (.if_icmp .ge 30, 3) := by decide +kernel
theorem dX6_calm_24 : decode cX6_calm 24 = .ok (.aload_n 0, 1) := by decide +kernel
theorem dX6_calm_25 : decode cX6_calm 25 = .ok (.getfield 25, 3) := by decide +kernel
theorem dX6_calm_28 : decode cX6_calm 28 = .ok (.iload_n 3, 1) := by decide +kernel
theorem dX6_calm_29 : decode cX6_calm 29 = .ok (.iaload, 1) := by decide +kernel
theorem dX6_calm_30 : decode cX6_calm 30 = .ok (.aload_n 0, 1) := by decide +kernel
theorem dX6_calm_31 : decode cX6_calm 31 = .ok (.getfield 25, 3) := by decide +kernel
theorem dX6_calm_34 : decode cX6_calm 34 = .ok (.iload_n 2, 1) := by decide +kernel
theorem dX6_calm_35 : decode cX6_calm 35 = .ok (.iaload, 1) := by decide +kernel
theorem dX6_calm_36 : decode cX6_calm 36 = .ok (.if_icmp .ge 7, 3) := by decide +kernel
theorem dX6_calm_39 : decode cX6_calm 39 = .ok (.iload_n 3, 1) := by decide +kernel
theorem dX6_calm_40 : decode cX6_calm 40 = .ok (.goto 4, 3) := by decide +kernel
theorem dX6_calm_43 : decode cX6_calm 43 = .ok (.iload_n 2, 1) := by decide +kernel
theorem dX6_calm_44 : decode cX6_calm 44 = .ok (.istore_n 2, 1) := by decide +kernel
theorem dX6_calm_45 : decode cX6_calm 45 = .ok (.iinc 3 1, 3) := by decide +kernel
theorem dX6_calm_48 : decode cX6_calm 48 = .ok (.goto (-30), 3) := by decide +kernel
theorem dX6_calm_51 : decode cX6_calm 51 = .ok (.iload_n 2, 1) := by decide +kernel
theorem dX6_calm_52 : decode cX6_calm 52 = .ok (.ireturn, 1) := by decide +kernel
theorem dX6_product_0 : decode cX6_product 0 = .ok (.lconst 1, 1) := by decide +kernel
theorem dX6_product_1 : decode cX6_product 1 = .ok (.lstore_n 1, 1) := by decide +kernel
theorem dX6_product_2 : decode cX6_product 2 = .ok (.iconst 2, 1) := by decide +kernel
theorem dX6_product_3 : decode cX6_product 3 = .ok (.istore_n 3, 1) := by decide +kernel
theorem dX6_product_4 : decode cX6_product 4 = .ok (.iload_n 3, 1) := by decide +kernel
theorem dX6_product_5 : decode cX6_product 5 = .ok (.iload_n 0, 1) := by decide +kernel
theorem dX6_product_6 : decode cX6_product 6 = .ok (.if_icmp .gt 14, 3) := by decide +kernel
theorem dX6_product_9 : decode cX6_product 9 = .ok (.lload_n 1, 1) := by decide +kernel
theorem dX6_product_10 : decode cX6_product 10 = .ok (.iload_n 3, 1) := by decide +kernel
theorem dX6_product_11 : decode cX6_product 11 = .ok (.i2l, 1) := by decide +kernel
theorem dX6_product_12 : decode cX6_product 12 = .ok (.lmul, 1) := by decide +kernel
theorem dX6_product_13 : decode cX6_product 13 = .ok (.lstore_n 1, 1) := by decide +kernel
theorem dX6_product_14 : decode cX6_product 14 = .ok (.iinc 3 1, 3) := by decide +kernel
theorem dX6_product_17 : decode cX6_product 17 = .ok (.goto (-13), 3) := by decide +kernel
theorem dX6_product_20 : decode cX6_product 20 = .ok (.lload_n 1, 1) := by decide +kernel
theorem dX6_product_21 : decode cX6_product 21 = .ok (.lreturn, 1) := by decide +kernel
theorem dX6_partOf_0 : decode cX6_partOf 0 = .ok (.lload_n 2, 1) := by decide +kernel
theorem dX6_partOf_1 : decode cX6_partOf 1 = .ok (.lstore 5, 2) := by decide +kernel
theorem dX6_partOf_3 : decode cX6_partOf 3 = .ok (.lload_n 0, 1) := by decide +kernel
theorem dX6_partOf_4 : decode cX6_partOf 4 = .ok (.lstore 7, 2) := by decide +kernel
theorem dX6_partOf_6 : decode cX6_partOf 6 = .ok (.lload 7, 2) := by decide +kernel
theorem dX6_partOf_8 : decode cX6_partOf 8 = .ok (.lconst 0, 1) := by decide +kernel
theorem dX6_partOf_9 : decode cX6_partOf 9 = .ok (.lcmp, 1) := by decide +kernel
theorem dX6_partOf_10 : decode cX6_partOf 10 = .ok (.ifCond .eq 21, 3) := by decide +kernel
theorem dX6_partOf_13 : decode cX6_partOf 13 = .ok (.lload 5, 2) := by decide +kernel
theorem dX6_partOf_15 : decode cX6_partOf 15 = .ok (.lload 7, 2) := by decide +kernel
theorem dX6_partOf_17 : decode cX6_partOf 17 = .ok (.lrem, 1) := by decide +kernel
theorem dX6_partOf_18 : decode cX6_partOf 18 = .ok (.lstore 9, 2) := by decide +kernel
theorem dX6_partOf_20 : decode cX6_partOf 20 = .ok (.lload 7, 2) := by decide +kernel
theorem dX6_partOf_22 : decode cX6_partOf 22 = .ok (.lstore 5, 2) := by decide +kernel
theorem dX6_partOf_24 : decode cX6_partOf 24 = .ok (.lload 9, 2) := by decide +kernel
theorem dX6_partOf_26 : decode cX6_partOf 26 = .ok (.lstore 7, 2) := by decide +kernel
theorem dX6_partOf_28 : decode cX6_partOf 28 = .ok (.goto (-22), 3) := by decide +kernel
theorem dX6_partOf_31 : decode cX6_partOf 31 = .ok (.iload 4, 2) := by decide +kernel
theorem dX6_partOf_33 : decode cX6_partOf 33 = .ok (.ifCond .ne 10, 3) := by decide +kernel
theorem dX6_partOf_36 : decode cX6_partOf 36 = .ok (.lload_n 0, 1) := by decide +kernel
theorem dX6_partOf_37 : decode cX6_partOf 37 = .ok (.lload 5, 2) := by decide +kernel
theorem dX6_partOf_39 : decode cX6_partOf 39 = .ok (.ldiv, 1) := by decide +kernel
theorem dX6_partOf_40 : decode cX6_partOf 40 = .ok (.goto 7, 3) := by decide +kernel
theorem dX6_partOf_43 : decode cX6_partOf 43 = .ok (.lload_n 2, 1) := by decide +kernel
theorem dX6_partOf_44 : decode cX6_partOf 44 = .ok (.lload 5, 2) := by decide +kernel
theorem dX6_partOf_46 : decode cX6_partOf 46 = .ok (.ldiv, 1) := by decide +kernel
theorem dX6_partOf_47 : decode cX6_partOf 47 = .ok (.lreturn, 1) := by decide +kernel
set_option maxRecDepth 20000 in
theorem ggX6_isTold_X6_copyRow : GoodIn wsX6_isTold wsX6_copyRow := goodIn_r _ [8] (by decide +kernel) (by decide +kernel)
set_option maxRecDepth 20000 in
theorem gX6_isTold_X6_copyRow : GoodIn wsX6_isTold (va_wsS RX6 138 yX6_copyRow wsX6_copyRow) := goodIn_app (goodIn_of _ (by decide +kernel)) ggX6_isTold_X6_copyRow
set_option maxRecDepth 20000 in
theorem ggX6_isTold_X6_goes : GoodIn wsX6_isTold wsX6_goes := goodIn_r _ [12, 13, 14, 15, 7, 16, 1, 17, 18, 19, 20, 21, 22, 23, 24, 25, 26, 27, 28, 29, 30, 31, 32, 33, 34, 35, 36, 37, 38, 39, 40, 41, 42, 43, 44, 45, 46, 47, 48, 49, 50, 51, 52, 53, 54, 55, 56, 57, 58, 59, 60, 61, 62, 63, 64, 65, 66, 67, 68, 69, 70, 71, 72, 73, 74, 75] (by decide +kernel) (by decide +kernel)
set_option maxRecDepth 20000 in
theorem gX6_isTold_X6_goes : GoodIn wsX6_isTold (wsV RX6 203 RX6 yX6_goes wsX6_goes) := goodIn_app (goodIn_of _ (by decide +kernel)) ggX6_isTold_X6_goes
theorem dX6_isTold_0 : decode cX6_isTold 0 = .ok (.aload_n 0, 1) := by decide +kernel
theorem dX6_isTold_1 : decode cX6_isTold 1 = .ok (.getfield 7, 3) := by decide +kernel
theorem dX6_isTold_4 : decode cX6_isTold 4 = .ok (.aload_n 0, 1) := by decide +kernel
theorem dX6_isTold_5 : decode cX6_isTold 5 = .ok (.getfield 16, 3) := by decide +kernel
theorem dX6_isTold_8 : decode cX6_isTold 8 = .ok (.invokestatic 138, 3) := by decide +kernel
theorem dX6_isTold_11 : decode cX6_isTold 11 = .ok (.iconst 1, 1) := by decide +kernel
theorem dX6_isTold_12 : decode cX6_isTold 12 = .ok (.istore_n 2, 1) := by decide +kernel
theorem dX6_isTold_13 : decode cX6_isTold 13 = .ok (.iconst 0, 1) := by decide +kernel
theorem dX6_isTold_14 : decode cX6_isTold 14 = .ok (.istore_n 3, 1) := by decide +kernel
theorem dX6_isTold_15 : decode cX6_isTold 15 = .ok (.iload_n 3, 1) := by decide +kernel
theorem dX6_isTold_16 : decode cX6_isTold 16 = .ok (.aload_n 0, 1) := by decide +kernel
theorem dX6_isTold_17 : decode cX6_isTold 17 = .ok (.getfield 34, 3) := by decide +kernel
theorem dX6_isTold_20 : decode cX6_isTold 20 = .ok (.iload_n 1, 1) := by decide +kernel
theorem dX6_isTold_21 : decode cX6_isTold 21 = .ok (.iaload, 1) := by decide +kernel
theorem dX6_isTold_22 : decode cX6_isTold 22 = .ok (.if_icmp .ge 60, 3) := by decide +kernel
theorem dX6_isTold_25 : decode cX6_isTold 25 = .ok (.iload_n 2, 1) := by decide +kernel
theorem dX6_isTold_26 : decode cX6_isTold 26 = .ok (.ifCond .eq 56, 3) := by decide +kernel
theorem dX6_isTold_29 : decode cX6_isTold 29 = .ok (.aload_n 0, 1) := by decide +kernel
theorem dX6_isTold_30 : decode cX6_isTold 30 = .ok (.iconst 1, 1) := by decide +kernel
theorem dX6_isTold_31 : decode cX6_isTold 31 = .ok (.iconst 0, 1) := by decide +kernel
theorem dX6_isTold_32 : decode cX6_isTold 32 = .ok (.invokevirtual 203, 3) := by decide +kernel
theorem dX6_isTold_35 : decode cX6_isTold 35 = .ok (.aload_n 0, 1) := by decide +kernel
theorem dX6_isTold_36 : decode cX6_isTold 36 = .ok (.getfield 37, 3) := by decide +kernel
theorem dX6_isTold_39 : decode cX6_isTold 39 = .ok (.bipush 40, 2) := by decide +kernel
theorem dX6_isTold_41 : decode cX6_isTold 41 = .ok (.iload_n 1, 1) := by decide +kernel
theorem dX6_isTold_42 : decode cX6_isTold 42 = .ok (.imul, 1) := by decide +kernel
theorem dX6_isTold_43 : decode cX6_isTold 43 = .ok (.iload_n 3, 1) := by decide +kernel
theorem dX6_isTold_44 : decode cX6_isTold 44 = .ok (.iadd, 1) := by decide +kernel
theorem dX6_isTold_45 : decode cX6_isTold 45 = .ok (.iaload, 1) := by decide +kernel
theorem dX6_isTold_46 : decode cX6_isTold 46 = .ok (.iconst (-1), 1) := by decide +kernel
theorem dX6_isTold_47 : decode cX6_isTold 47 = .ok (.if_icmp .eq 23, 3) := by decide +kernel
theorem dX6_isTold_50 : decode cX6_isTold 50 = .ok (.aload_n 0, 1) := by decide +kernel
theorem dX6_isTold_51 : decode cX6_isTold 51 = .ok (.getfield 37, 3) := by decide +kernel
theorem dX6_isTold_54 : decode cX6_isTold 54 = .ok (.bipush 40, 2) := by decide +kernel
theorem dX6_isTold_56 : decode cX6_isTold 56 = .ok (.iload_n 1, 1) := by decide +kernel
theorem dX6_isTold_57 : decode cX6_isTold 57 = .ok (.imul, 1) := by decide +kernel
theorem dX6_isTold_58 : decode cX6_isTold 58 = .ok (.iload_n 3, 1) := by decide +kernel
theorem dX6_isTold_59 : decode cX6_isTold 59 = .ok (.iadd, 1) := by decide +kernel
theorem dX6_isTold_60 : decode cX6_isTold 60 = .ok (.iaload, 1) := by decide +kernel
theorem dX6_isTold_61 : decode cX6_isTold 61 = .ok (.aload_n 0, 1) := by decide +kernel
theorem dX6_isTold_62 : decode cX6_isTold 62 = .ok (.getfield 7, 3) := by decide +kernel
theorem dX6_isTold_65 : decode cX6_isTold 65 = .ok (.iconst 3, 1) := by decide +kernel
theorem dX6_isTold_66 : decode cX6_isTold 66 = .ok (.iaload, 1) := by decide +kernel
theorem dX6_isTold_67 : decode cX6_isTold 67 = .ok (.if_icmp .ne 7, 3) := by decide +kernel
theorem dX6_isTold_70 : decode cX6_isTold 70 = .ok (.iconst 1, 1) := by decide +kernel
theorem dX6_isTold_71 : decode cX6_isTold 71 = .ok (.goto 4, 3) := by decide +kernel
theorem dX6_isTold_74 : decode cX6_isTold 74 = .ok (.iconst 0, 1) := by decide +kernel
theorem dX6_isTold_75 : decode cX6_isTold 75 = .ok (.istore_n 2, 1) := by decide +kernel
theorem dX6_isTold_76 : decode cX6_isTold 76 = .ok (.iinc 3 1, 3) := by decide +kernel
theorem dX6_isTold_79 : decode cX6_isTold 79 = .ok (.goto (-64), 3) := by decide +kernel
theorem dX6_isTold_82 : decode cX6_isTold 82 = .ok (.aload_n 0, 1) := by decide +kernel
theorem dX6_isTold_83 : decode cX6_isTold 83 = .ok (.getfield 16, 3) := by decide +kernel
theorem dX6_isTold_86 : decode cX6_isTold 86 = .ok (.aload_n 0, 1) := by decide +kernel
theorem dX6_isTold_87 : decode cX6_isTold 87 = .ok (.getfield 7, 3) := by decide +kernel
theorem dX6_isTold_90 : decode cX6_isTold 90 = .ok (.invokestatic 138, 3) := by decide +kernel
theorem dX6_isTold_93 : decode cX6_isTold 93 = .ok (.iload_n 2, 1) := by decide +kernel
theorem dX6_isTold_94 : decode cX6_isTold 94 = .ok (.ireturn, 1) := by decide +kernel
set_option maxRecDepth 20000 in
theorem ggX6_fits_X6_isSheet : GoodIn wsX6_fits wsX6_isSheet := goodIn_r _ [6, 7, 8, 9, 5, 10] (by decide +kernel) (by decide +kernel)
set_option maxRecDepth 20000 in
theorem gX6_fits_X6_isSheet : GoodIn wsX6_fits (va_wsS RX6 238 yX6_isSheet wsX6_isSheet) := goodIn_app (goodIn_of _ (by decide +kernel)) ggX6_fits_X6_isSheet
set_option maxRecDepth 20000 in
theorem ggX6_fits_X6_isOne : GoodIn wsX6_fits wsX6_isOne := goodIn_r _ [14, 2, 65, 66, 67, 68, 69, 70, 71, 72, 73, 74, 75, 76, 77, 78, 79, 80, 81, 82, 83, 84, 85, 86, 87, 88, 89, 90, 91] (by decide +kernel) (by decide +kernel)
set_option maxRecDepth 20000 in
theorem gX6_fits_X6_isOne : GoodIn wsX6_fits (wsV RX6 166 RX6 yX6_isOne wsX6_isOne) := goodIn_app (goodIn_of _ (by decide +kernel)) ggX6_fits_X6_isOne
set_option maxRecDepth 20000 in
theorem ggX6_fits_X6_isIn : GoodIn wsX6_fits wsX6_isIn := goodIn_r _ [10] (by decide +kernel) (by decide +kernel)
set_option maxRecDepth 20000 in
theorem gX6_fits_X6_isIn : GoodIn wsX6_fits (va_wsS RX6 57 yX6_isIn wsX6_isIn) := goodIn_app (goodIn_of _ (by decide +kernel)) ggX6_fits_X6_isIn
set_option maxRecDepth 20000 in
theorem ggX6_fits_X6_isTold : GoodIn wsX6_fits wsX6_isTold := goodIn_r _ [18, 2, 19, 20, 21, 22, 23, 5, 24, 25, 26, 27, 28, 29, 30, 31, 32, 33, 34, 35, 36, 37, 38, 39, 40, 41, 42, 43, 44, 45, 46, 47, 48, 49, 50, 51, 52, 53, 54, 55, 56, 57, 58, 59, 60, 61, 62, 63, 64, 65, 66, 67, 68, 69, 70, 71, 72, 73, 74, 75, 76, 77, 78, 79, 80, 81, 82, 83, 84, 85, 86, 87, 88, 89, 90, 91] (by decide +kernel) (by decide +kernel)
set_option maxRecDepth 20000 in
theorem gX6_fits_X6_isTold : GoodIn wsX6_fits (wsV RX6 241 RX6 yX6_isTold wsX6_isTold) := goodIn_app (goodIn_of _ (by decide +kernel)) ggX6_fits_X6_isTold
theorem dX6_fits_0 : decode cX6_fits 0 = .ok (.iload_n 1, 1) := by decide +kernel
theorem dX6_fits_1 : decode cX6_fits 1 = .ok (.invokestatic 238, 3) := by decide +kernel
theorem dX6_fits_4 : decode cX6_fits 4 = .ok (.ifCond .eq 21, 3) := by decide +kernel
theorem dX6_fits_7 : decode cX6_fits 7 = .ok (.aload_n 0, 1) := by decide +kernel
theorem dX6_fits_8 : decode cX6_fits 8 = .ok (.iload_n 2, 1) := by decide +kernel
theorem dX6_fits_9 : decode cX6_fits 9 = .ok (.invokevirtual 166, 3) := by decide +kernel
theorem dX6_fits_12 : decode cX6_fits 12 = .ok (.ifCond .eq 13, 3) := by decide +kernel
theorem dX6_fits_15 : decode cX6_fits 15 = .ok (.iload_n 3, 1) := by decide +kernel
theorem dX6_fits_16 : decode cX6_fits 16 = .ok (.i2l, 1) := by decide +kernel
theorem dX6_fits_17 : decode cX6_fits 17 = .ok (.lconst 0, 1) := by decide +kernel
theorem dX6_fits_18 : decode cX6_fits 18 = .ok (.lconst 1, 1) := by decide +kernel
theorem dX6_fits_19 : decode cX6_fits 19 = .ok (.invokestatic 57, 3) := by decide +kernel
theorem dX6_fits_22 : decode cX6_fits 22 = .ok (.ifCond .ne 5, 3) := by decide +kernel
theorem dX6_fits_25 : decode cX6_fits 25 = .ok (.iconst (-1), 1) := by decide +kernel
theorem dX6_fits_26 : decode cX6_fits 26 = .ok (.ireturn, 1) := by decide +kernel
theorem dX6_fits_27 : decode cX6_fits 27 = .ok (.aload_n 0, 1) := by decide +kernel
theorem dX6_fits_28 : decode cX6_fits 28 = .ok (.getfield 31, 3) := by decide +kernel
theorem dX6_fits_31 : decode cX6_fits 31 = .ok (.iload_n 1, 1) := by decide +kernel
theorem dX6_fits_32 : decode cX6_fits 32 = .ok (.iaload, 1) := by decide +kernel
theorem dX6_fits_33 : decode cX6_fits 33 = .ok (.ifCond .ge 6, 3) := by decide +kernel
theorem dX6_fits_36 : decode cX6_fits 36 = .ok (.bipush (-11), 2) := by decide +kernel
theorem dX6_fits_38 : decode cX6_fits 38 = .ok (.ireturn, 1) := by decide +kernel
theorem dX6_fits_39 : decode cX6_fits 39 = .ok (.bipush 10, 2) := by decide +kernel
theorem dX6_fits_41 : decode cX6_fits 41 = .ok (.iconst 5, 1) := by decide +kernel
theorem dX6_fits_42 : decode cX6_fits 42 = .ok (.iload_n 2, 1) := by decide +kernel
theorem dX6_fits_43 : decode cX6_fits 43 = .ok (.imul, 1) := by decide +kernel
theorem dX6_fits_44 : decode cX6_fits 44 = .ok (.iadd, 1) := by decide +kernel
theorem dX6_fits_45 : decode cX6_fits 45 = .ok (.iconst 2, 1) := by decide +kernel
theorem dX6_fits_46 : decode cX6_fits 46 = .ok (.iadd, 1) := by decide +kernel
theorem dX6_fits_47 : decode cX6_fits 47 = .ok (.istore 4, 2) := by decide +kernel
theorem dX6_fits_49 : decode cX6_fits 49 = .ok (.aload_n 0, 1) := by decide +kernel
theorem dX6_fits_50 : decode cX6_fits 50 = .ok (.getfield 7, 3) := by decide +kernel
theorem dX6_fits_53 : decode cX6_fits 53 = .ok (.iload 4, 2) := by decide +kernel
theorem dX6_fits_55 : decode cX6_fits 55 = .ok (.iaload, 1) := by decide +kernel
theorem dX6_fits_56 : decode cX6_fits 56 = .ok (.istore 5, 2) := by decide +kernel
theorem dX6_fits_58 : decode cX6_fits 58 = .ok (.iconst 0, 1) := by decide +kernel
theorem dX6_fits_59 : decode cX6_fits 59 = .ok (.istore 6, 2) := by decide +kernel
theorem dX6_fits_61 : decode cX6_fits 61 = .ok (.bipush (-3), 2) := by decide +kernel
theorem dX6_fits_63 : decode cX6_fits 63 = .ok (.istore 7, 2) := by decide +kernel
theorem dX6_fits_65 : decode cX6_fits 65 = .ok (.bipush 8, 2) := by decide +kernel
theorem dX6_fits_67 : decode cX6_fits 67 = .ok (.istore 8, 2) := by decide +kernel
theorem dX6_fits_69 : decode cX6_fits 69 = .ok (.iload 8, 2) := by decide +kernel
theorem dX6_fits_71 : decode cX6_fits 71 = .ok (.ifCond .lt 54, 3) := by decide +kernel
theorem dX6_fits_74 : decode cX6_fits 74 = .ok (.aload_n 0, 1) := by decide +kernel
theorem dX6_fits_75 : decode cX6_fits 75 = .ok (.getfield 7, 3) := by decide +kernel
theorem dX6_fits_78 : decode cX6_fits 78 = .ok (.iload 4, 2) := by decide +kernel
theorem dX6_fits_80 : decode cX6_fits 80 = .ok (.iload 8, 2) := by decide +kernel
theorem dX6_fits_82 : decode cX6_fits 82 = .ok (.iastore, 1) := by decide +kernel
theorem dX6_fits_83 : decode cX6_fits 83 = .ok (.aload_n 0, 1) := by decide +kernel
theorem dX6_fits_84 : decode cX6_fits 84 = .ok (.iload_n 1, 1) := by decide +kernel
theorem dX6_fits_85 : decode cX6_fits 85 = .ok (.invokevirtual 241, 3) := by decide +kernel
theorem dX6_fits_88 : decode cX6_fits 88 = .ok (.istore 9, 2) := by decide +kernel
theorem dX6_fits_90 : decode cX6_fits 90 = .ok (.iload 6, 2) := by decide +kernel
theorem dX6_fits_92 : decode cX6_fits 92 = .ok (.iload 9, 2) := by decide +kernel
theorem dX6_fits_94 : decode cX6_fits 94 = .ok (.ifCond .eq 7, 3) := by decide +kernel
theorem dX6_fits_97 : decode cX6_fits 97 = .ok (.iconst 1, 1) := by decide +kernel
theorem dX6_fits_98 : decode cX6_fits 98 = .ok (.goto 4, 3) := by decide +kernel
theorem dX6_fits_101 : decode cX6_fits 101 = .ok (.iconst 0, 1) := by decide +kernel
theorem dX6_fits_102 : decode cX6_fits 102 = .ok (.iadd, 1) := by decide +kernel
theorem dX6_fits_103 : decode cX6_fits 103 = .ok (.istore 6, 2) := by decide +kernel
theorem dX6_fits_105 : decode cX6_fits 105 = .ok (.iload 9, 2) := by decide +kernel
theorem dX6_fits_107 : decode cX6_fits 107 = .ok (.ifCond .eq 8, 3) := by decide +kernel
theorem dX6_fits_110 : decode cX6_fits 110 = .ok (.iload 8, 2) := by decide +kernel
theorem dX6_fits_112 : decode cX6_fits 112 = .ok (.goto 5, 3) := by decide +kernel
theorem dX6_fits_115 : decode cX6_fits 115 = .ok (.iload 7, 2) := by decide +kernel
theorem dX6_fits_117 : decode cX6_fits 117 = .ok (.istore 7, 2) := by decide +kernel
theorem dX6_fits_119 : decode cX6_fits 119 = .ok (.iinc 8 (-1), 3) := by decide +kernel
theorem dX6_fits_122 : decode cX6_fits 122 = .ok (.goto (-53), 3) := by decide +kernel
theorem dX6_fits_125 : decode cX6_fits 125 = .ok (.aload_n 0, 1) := by decide +kernel
theorem dX6_fits_126 : decode cX6_fits 126 = .ok (.getfield 7, 3) := by decide +kernel
theorem dX6_fits_129 : decode cX6_fits 129 = .ok (.iload 4, 2) := by decide +kernel
theorem dX6_fits_131 : decode cX6_fits 131 = .ok (.iload 5, 2) := by decide +kernel
theorem dX6_fits_133 : decode cX6_fits 133 = .ok (.iastore, 1) := by decide +kernel
theorem dX6_fits_134 : decode cX6_fits 134 = .ok (.iload_n 3, 1) := by decide +kernel
theorem dX6_fits_135 : decode cX6_fits 135 = .ok (.ifCond .ne 8, 3) := by decide +kernel
theorem dX6_fits_138 : decode cX6_fits 138 = .ok (.iload 6, 2) := by decide +kernel
theorem dX6_fits_140 : decode cX6_fits 140 = .ok (.goto 5, 3) := by decide +kernel
theorem dX6_fits_143 : decode cX6_fits 143 = .ok (.iload 7, 2) := by decide +kernel
theorem dX6_fits_145 : decode cX6_fits 145 = .ok (.ireturn, 1) := by decide +kernel
set_option maxRecDepth 20000 in
theorem ggX6_odds_X6_isIn : GoodIn wsX6_odds wsX6_isIn := goodIn_r _ [8] (by decide +kernel) (by decide +kernel)
set_option maxRecDepth 20000 in
theorem gX6_odds_X6_isIn : GoodIn wsX6_odds (va_wsS RX6 57 yX6_isIn wsX6_isIn) := goodIn_app (goodIn_of _ (by decide +kernel)) ggX6_odds_X6_isIn
set_option maxRecDepth 20000 in
theorem ggX6_odds_X6_product : GoodIn wsX6_odds wsX6_product := goodIn_r _ [11] (by decide +kernel) (by decide +kernel)
set_option maxRecDepth 20000 in
theorem gX6_odds_X6_product : GoodIn wsX6_odds (va_wsS RX6 246 yX6_product wsX6_product) := goodIn_app (goodIn_of _ (by decide +kernel)) ggX6_odds_X6_product
set_option maxRecDepth 20000 in
theorem ggX6_odds_X6_partOf : GoodIn wsX6_odds wsX6_partOf := goodIn_r _ [14] (by decide +kernel) (by decide +kernel)
set_option maxRecDepth 20000 in
theorem gX6_odds_X6_partOf : GoodIn wsX6_odds (va_wsS RX6 252 yX6_partOf wsX6_partOf) := goodIn_app (goodIn_of _ (by decide +kernel)) ggX6_odds_X6_partOf
theorem dX6_odds_0 : decode cX6_odds 0 = .ok (.iload_n 1, 1) := by decide +kernel
theorem dX6_odds_1 : decode cX6_odds 1 = .ok (.i2l, 1) := by decide +kernel
theorem dX6_odds_2 : decode cX6_odds 2 = .ok (.lconst 0, 1) := by decide +kernel
theorem dX6_odds_3 : decode cX6_odds 3 = .ok (.ldc2_w 55, 3) := by decide +kernel
theorem dX6_odds_6 : decode cX6_odds 6 = .ok (.invokestatic 57, 3) := by decide +kernel
theorem dX6_odds_9 : decode cX6_odds 9 = .ok (.ifCond .eq 24, 3) := by decide +kernel
theorem dX6_odds_12 : decode cX6_odds 12 = .ok (.iload_n 2, 1) := by decide +kernel
theorem dX6_odds_13 : decode cX6_odds 13 = .ok (.i2l, 1) := by decide +kernel
theorem dX6_odds_14 : decode cX6_odds 14 = .ok (.lconst 0, 1) := by decide +kernel
theorem dX6_odds_15 : decode cX6_odds 15 = .ok (.iload_n 1, 1) := by decide +kernel
theorem dX6_odds_16 : decode cX6_odds 16 = .ok (.i2l, 1) := by decide +kernel
theorem dX6_odds_17 : decode cX6_odds 17 = .ok (.invokestatic 57, 3) := by decide +kernel
theorem dX6_odds_20 : decode cX6_odds 20 = .ok (.ifCond .eq 13, 3) := by decide +kernel
theorem dX6_odds_23 : decode cX6_odds 23 = .ok (.iload_n 3, 1) := by decide +kernel
theorem dX6_odds_24 : decode cX6_odds 24 = .ok (.i2l, 1) := by decide +kernel
theorem dX6_odds_25 : decode cX6_odds 25 = .ok (.lconst 0, 1) := by decide +kernel
theorem dX6_odds_26 : decode cX6_odds 26 = .ok (.lconst 1, 1) := by decide +kernel
theorem dX6_odds_27 : decode cX6_odds 27 = .ok (.invokestatic 57, 3) := by decide +kernel
theorem dX6_odds_30 : decode cX6_odds 30 = .ok (.ifCond .ne 7, 3) := by decide +kernel
theorem dX6_odds_33 : decode cX6_odds 33 = .ok (.ldc2_w 244, 3) := by decide +kernel
theorem dX6_odds_36 : decode cX6_odds 36 = .ok (.lreturn, 1) := by decide +kernel
theorem dX6_odds_37 : decode cX6_odds 37 = .ok (.iload_n 1, 1) := by decide +kernel
theorem dX6_odds_38 : decode cX6_odds 38 = .ok (.invokestatic 246, 3) := by decide +kernel
theorem dX6_odds_41 : decode cX6_odds 41 = .ok (.iload_n 2, 1) := by decide +kernel
theorem dX6_odds_42 : decode cX6_odds 42 = .ok (.invokestatic 246, 3) := by decide +kernel
theorem dX6_odds_45 : decode cX6_odds 45 = .ok (.ldiv, 1) := by decide +kernel
theorem dX6_odds_46 : decode cX6_odds 46 = .ok (.iload_n 1, 1) := by decide +kernel
theorem dX6_odds_47 : decode cX6_odds 47 = .ok (.iload_n 2, 1) := by decide +kernel
theorem dX6_odds_48 : decode cX6_odds 48 = .ok (.isub, 1) := by decide +kernel
theorem dX6_odds_49 : decode cX6_odds 49 = .ok (.invokestatic 246, 3) := by decide +kernel
theorem dX6_odds_52 : decode cX6_odds 52 = .ok (.ldiv, 1) := by decide +kernel
theorem dX6_odds_53 : decode cX6_odds 53 = .ok (.lstore 4, 2) := by decide +kernel
theorem dX6_odds_55 : decode cX6_odds 55 = .ok (.lconst 1, 1) := by decide +kernel
theorem dX6_odds_56 : decode cX6_odds 56 = .ok (.lstore 6, 2) := by decide +kernel
theorem dX6_odds_58 : decode cX6_odds 58 = .ok (.iconst 0, 1) := by decide +kernel
theorem dX6_odds_59 : decode cX6_odds 59 = .ok (.istore 8, 2) := by decide +kernel
theorem dX6_odds_61 : decode cX6_odds 61 = .ok (.iload 8, 2) := by decide +kernel
theorem dX6_odds_63 : decode cX6_odds 63 = .ok (.iload_n 1, 1) := by decide +kernel
theorem dX6_odds_64 : decode cX6_odds 64 = .ok (.if_icmp .ge 50, 3) := by decide +kernel
theorem dX6_odds_67 : decode cX6_odds 67 = .ok (.lload 4, 2) := by decide +kernel
theorem dX6_odds_69 : decode cX6_odds 69 = .ok (.iload 8, 2) := by decide +kernel
theorem dX6_odds_71 : decode cX6_odds 71 = .ok (.iload_n 2, 1) := by decide +kernel
theorem dX6_odds_72 : decode cX6_odds 72 = .ok (.if_icmp .ge 14, 3) := by decide +kernel
theorem dX6_odds_75 : decode cX6_odds 75 = .ok (.aload_n 0, 1) := by decide +kernel
theorem dX6_odds_76 : decode cX6_odds 76 = .ok (.getfield 7, 3) := by decide +kernel
theorem dX6_odds_79 : decode cX6_odds 79 = .ok (.bipush 9, 2) := by decide +kernel
theorem dX6_odds_81 : decode cX6_odds 81 = .ok (.iaload, 1) := by decide +kernel
theorem dX6_odds_82 : decode cX6_odds 82 = .ok (.i2l, 1) := by decide +kernel
theorem dX6_odds_83 : decode cX6_odds 83 = .ok (.goto 14, 3) := by decide +kernel
theorem dX6_odds_86 : decode cX6_odds 86 = .ok (.bipush 100, 2) := by decide +kernel
theorem dX6_odds_88 : decode cX6_odds 88 = .ok (.aload_n 0, 1) := by decide +kernel
theorem dX6_odds_89 : decode cX6_odds 89 = .ok (.getfield 7, 3) := by decide +kernel
theorem dX6_odds_92 : decode cX6_odds 92 = .ok (.bipush 9, 2) := by decide +kernel
theorem dX6_odds_94 : decode cX6_odds 94 = .ok (.iaload, 1) := by decide +kernel
theorem dX6_odds_95 : decode cX6_odds 95 = .ok (.isub, 1) := by decide +kernel
theorem dX6_odds_96 : decode cX6_odds 96 = .ok (.i2l, 1) := by decide +kernel
theorem dX6_odds_97 : decode cX6_odds 97 = .ok (.lmul, 1) := by decide +kernel
theorem dX6_odds_98 : decode cX6_odds 98 = .ok (.lstore 4, 2) := by decide +kernel
theorem dX6_odds_100 : decode cX6_odds 100 = .ok (.lload 6, 2) := by decide +kernel
theorem dX6_odds_102 : decode cX6_odds 102 = .ok (.ldc2_w 250, 3) := by decide +kernel
theorem dX6_odds_105 : decode cX6_odds 105 = .ok (.lmul, 1) := by decide +kernel
theorem dX6_odds_106 : decode cX6_odds 106 = .ok (.lstore 6, 2) := by decide +kernel
theorem dX6_odds_108 : decode cX6_odds 108 = .ok (.iinc 8 1, 3) := by decide +kernel
theorem dX6_odds_111 : decode cX6_odds 111 = .ok (.goto (-50), 3) := by decide +kernel
theorem dX6_odds_114 : decode cX6_odds 114 = .ok (.lload 4, 2) := by decide +kernel
theorem dX6_odds_116 : decode cX6_odds 116 = .ok (.lload 6, 2) := by decide +kernel
theorem dX6_odds_118 : decode cX6_odds 118 = .ok (.iload_n 3, 1) := by decide +kernel
theorem dX6_odds_119 : decode cX6_odds 119 = .ok (.invokestatic 252, 3) := by decide +kernel
theorem dX6_odds_122 : decode cX6_odds 122 = .ok (.lreturn, 1) := by decide +kernel
set_option maxRecDepth 20000 in
theorem ggX6_hope_X6_isIn : GoodIn wsX6_hope wsX6_isIn := goodIn_r _ [8] (by decide +kernel) (by decide +kernel)
set_option maxRecDepth 20000 in
theorem gX6_hope_X6_isIn : GoodIn wsX6_hope (va_wsS RX6 57 yX6_isIn wsX6_isIn) := goodIn_app (goodIn_of _ (by decide +kernel)) ggX6_hope_X6_isIn
set_option maxRecDepth 20000 in
theorem ggX6_hope_X6_partOf : GoodIn wsX6_hope wsX6_partOf := goodIn_r _ [11] (by decide +kernel) (by decide +kernel)
set_option maxRecDepth 20000 in
theorem gX6_hope_X6_partOf : GoodIn wsX6_hope (va_wsS RX6 252 yX6_partOf wsX6_partOf) := goodIn_app (goodIn_of _ (by decide +kernel)) ggX6_hope_X6_partOf
theorem dX6_hope_0 : decode cX6_hope 0 = .ok (.iload_n 1, 1) := by decide +kernel
theorem dX6_hope_1 : decode cX6_hope 1 = .ok (.i2l, 1) := by decide +kernel
theorem dX6_hope_2 : decode cX6_hope 2 = .ok (.lconst 0, 1) := by decide +kernel
theorem dX6_hope_3 : decode cX6_hope 3 = .ok (.ldc2_w 152, 3) := by decide +kernel
theorem dX6_hope_6 : decode cX6_hope 6 = .ok (.invokestatic 57, 3) := by decide +kernel
theorem dX6_hope_9 : decode cX6_hope 9 = .ok (.ifCond .eq 34, 3) := by decide +kernel
theorem dX6_hope_12 : decode cX6_hope 12 = .ok (.iload_n 2, 1) := by decide +kernel
theorem dX6_hope_13 : decode cX6_hope 13 = .ok (.i2l, 1) := by decide +kernel
theorem dX6_hope_14 : decode cX6_hope 14 = .ok (.lconst 0, 1) := by decide +kernel
theorem dX6_hope_15 : decode cX6_hope 15 = .ok (.lconst 1, 1) := by decide +kernel
theorem dX6_hope_16 : decode cX6_hope 16 = .ok (.invokestatic 57, 3) := by decide +kernel
theorem dX6_hope_19 : decode cX6_hope 19 = .ok (.ifCond .eq 24, 3) := by decide +kernel
theorem dX6_hope_22 : decode cX6_hope 22 = .ok (.iload_n 1, 1) := by decide +kernel
theorem dX6_hope_23 : decode cX6_hope 23 = .ok (.i2l, 1) := by decide +kernel
theorem dX6_hope_24 : decode cX6_hope 24 = .ok (.aload_n 0, 1) := by decide +kernel
theorem dX6_hope_25 : decode cX6_hope 25 = .ok (.getfield 7, 3) := by decide +kernel
theorem dX6_hope_28 : decode cX6_hope 28 = .ok (.bipush 9, 2) := by decide +kernel
theorem dX6_hope_30 : decode cX6_hope 30 = .ok (.iaload, 1) := by decide +kernel
theorem dX6_hope_31 : decode cX6_hope 31 = .ok (.i2l, 1) := by decide +kernel
theorem dX6_hope_32 : decode cX6_hope 32 = .ok (.lmul, 1) := by decide +kernel
theorem dX6_hope_33 : decode cX6_hope 33 = .ok (.ldc2_w 250, 3) := by decide +kernel
theorem dX6_hope_36 : decode cX6_hope 36 = .ok (.iload_n 2, 1) := by decide +kernel
theorem dX6_hope_37 : decode cX6_hope 37 = .ok (.invokestatic 252, 3) := by decide +kernel
theorem dX6_hope_40 : decode cX6_hope 40 = .ok (.goto 6, 3) := by decide +kernel
theorem dX6_hope_43 : decode cX6_hope 43 = .ok (.ldc2_w 244, 3) := by decide +kernel
theorem dX6_hope_46 : decode cX6_hope 46 = .ok (.lreturn, 1) := by decide +kernel
set_option maxRecDepth 20000 in
theorem ggX6_prove_X6_isOne : GoodIn wsX6_prove wsX6_isOne := goodIn_r _ [10, 2, 57, 58, 59, 60, 61, 62, 63, 64, 65, 66, 67, 68, 69, 70, 71, 72, 73, 74, 75, 76, 77, 78, 79, 80, 81, 82, 83] (by decide +kernel) (by decide +kernel)
set_option maxRecDepth 20000 in
theorem gX6_prove_X6_isOne : GoodIn wsX6_prove (wsV RX6 166 RX6 yX6_isOne wsX6_isOne) := goodIn_app (goodIn_of _ (by decide +kernel)) ggX6_prove_X6_isOne
set_option maxRecDepth 20000 in
theorem ggX6_prove_X6_isIn : GoodIn wsX6_prove wsX6_isIn := goodIn_r _ [13] (by decide +kernel) (by decide +kernel)
set_option maxRecDepth 20000 in
theorem gX6_prove_X6_isIn : GoodIn wsX6_prove (va_wsS RX6 57 yX6_isIn wsX6_isIn) := goodIn_app (goodIn_of _ (by decide +kernel)) ggX6_prove_X6_isIn
set_option maxRecDepth 20000 in
theorem ggX6_prove_X6_copyRow : GoodIn wsX6_prove wsX6_copyRow := goodIn_r _ [16] (by decide +kernel) (by decide +kernel)
set_option maxRecDepth 20000 in
theorem gX6_prove_X6_copyRow : GoodIn wsX6_prove (va_wsS RX6 138 yX6_copyRow wsX6_copyRow) := goodIn_app (goodIn_of _ (by decide +kernel)) ggX6_prove_X6_copyRow
set_option maxRecDepth 20000 in
theorem ggX6_prove_X6_sounds : GoodIn wsX6_prove wsX6_sounds := goodIn_r _ [20, 2, 21, 22, 23, 9, 24, 57, 58, 59, 60, 61, 62, 63, 64, 65, 66, 67, 68, 69, 70, 71, 72, 73, 74, 75, 76, 77, 78, 79, 80, 81, 82, 83] (by decide +kernel) (by decide +kernel)
set_option maxRecDepth 20000 in
theorem gX6_prove_X6_sounds : GoodIn wsX6_prove (wsV RX6 174 RX6 yX6_sounds wsX6_sounds) := goodIn_app (goodIn_of _ (by decide +kernel)) ggX6_prove_X6_sounds
set_option maxRecDepth 20000 in
theorem ggX6_prove_X6_goes : GoodIn wsX6_prove wsX6_goes := goodIn_r _ [28, 29, 30, 31, 9, 32, 2, 17, 18, 19, 20, 21, 22, 23, 24, 33, 34, 35, 36, 37, 38, 39, 40, 41, 42, 43, 44, 45, 46, 47, 48, 49, 50, 51, 52, 53, 54, 55, 56, 57, 58, 59, 60, 61, 62, 63, 64, 65, 66, 67, 68, 69, 70, 71, 72, 73, 74, 75, 76, 77, 78, 79, 80, 81, 82, 83] (by decide +kernel) (by decide +kernel)
set_option maxRecDepth 20000 in
theorem gX6_prove_X6_goes : GoodIn wsX6_prove (wsV RX6 203 RX6 yX6_goes wsX6_goes) := goodIn_app (goodIn_of _ (by decide +kernel)) ggX6_prove_X6_goes
set_option maxRecDepth 20000 in
theorem ggX6_prove_X6_its : GoodIn wsX6_prove wsX6_its := goodIn_r _ [24, 2, 57, 58, 59, 60, 61, 62, 63, 64, 65, 66, 67, 68, 69, 70, 71, 72, 73, 74, 75, 76, 77, 78, 79, 80, 81, 82, 83] (by decide +kernel) (by decide +kernel)
set_option maxRecDepth 20000 in
theorem gX6_prove_X6_its : GoodIn wsX6_prove (wsV RX6 163 RX6 yX6_its wsX6_its) := goodIn_app (goodIn_of _ (by decide +kernel)) ggX6_prove_X6_its
theorem dX6_prove_0 : decode cX6_prove 0 = .ok (.aload_n 0, 1) := by decide +kernel
theorem dX6_prove_1 : decode cX6_prove 1 = .ok (.iload_n 1, 1) := by decide +kernel
theorem dX6_prove_2 : decode cX6_prove 2 = .ok (.invokevirtual 166, 3) := by decide +kernel
theorem dX6_prove_5 : decode cX6_prove 5 = .ok (.ifCond .eq 15, 3) := by decide +kernel
theorem dX6_prove_8 : decode cX6_prove 8 = .ok (.iload_n 2, 1) := by decide +kernel
theorem dX6_prove_9 : decode cX6_prove 9 = .ok (.i2l, 1) := by decide +kernel
theorem dX6_prove_10 : decode cX6_prove 10 = .ok (.lconst 1, 1) := by decide +kernel
theorem dX6_prove_11 : decode cX6_prove 11 = .ok (.ldc2_w 256, 3) := by decide +kernel
theorem dX6_prove_14 : decode cX6_prove 14 = .ok (.invokestatic 57, 3) := by decide +kernel
theorem dX6_prove_17 : decode cX6_prove 17 = .ok (.ifCond .ne 5, 3) := by decide +kernel
theorem dX6_prove_20 : decode cX6_prove 20 = .ok (.iconst (-1), 1) := by decide +kernel
theorem dX6_prove_21 : decode cX6_prove 21 = .ok (.ireturn, 1) := by decide +kernel
theorem dX6_prove_22 : decode cX6_prove 22 = .ok (.aload_n 0, 1) := by decide +kernel
theorem dX6_prove_23 : decode cX6_prove 23 = .ok (.getfield 7, 3) := by decide +kernel
theorem dX6_prove_26 : decode cX6_prove 26 = .ok (.aload_n 0, 1) := by decide +kernel
theorem dX6_prove_27 : decode cX6_prove 27 = .ok (.getfield 16, 3) := by decide +kernel
theorem dX6_prove_30 : decode cX6_prove 30 = .ok (.invokestatic 138, 3) := by decide +kernel
theorem dX6_prove_33 : decode cX6_prove 33 = .ok (.iconst 0, 1) := by decide +kernel
theorem dX6_prove_34 : decode cX6_prove 34 = .ok (.istore_n 3, 1) := by decide +kernel
theorem dX6_prove_35 : decode cX6_prove 35 = .ok (.iload_n 3, 1) := by decide +kernel
theorem dX6_prove_36 : decode cX6_prove 36 = .ok (.iload_n 2, 1) := by decide +kernel
theorem dX6_prove_37 : decode cX6_prove 37 = .ok (.if_icmp .ge 68, 3) := by decide +kernel
theorem dX6_prove_40 : decode cX6_prove 40 = .ok (.aload_n 0, 1) := by decide +kernel
theorem dX6_prove_41 : decode cX6_prove 41 = .ok (.getfield 28, 3) := by decide +kernel
theorem dX6_prove_44 : decode cX6_prove 44 = .ok (.iconst 3, 1) := by decide +kernel
theorem dX6_prove_45 : decode cX6_prove 45 = .ok (.iload_n 3, 1) := by decide +kernel
theorem dX6_prove_46 : decode cX6_prove 46 = .ok (.imul, 1) := by decide +kernel
theorem dX6_prove_47 : decode cX6_prove 47 = .ok (.aload_n 0, 1) := by decide +kernel
theorem dX6_prove_48 : decode cX6_prove 48 = .ok (.iload_n 1, 1) := by decide +kernel
theorem dX6_prove_49 : decode cX6_prove 49 = .ok (.invokevirtual 174, 3) := by decide +kernel
theorem dX6_prove_52 : decode cX6_prove 52 = .ok (.ifCond .eq 7, 3) := by decide +kernel
theorem dX6_prove_55 : decode cX6_prove 55 = .ok (.iconst 1, 1) := by decide +kernel
theorem dX6_prove_56 : decode cX6_prove 56 = .ok (.goto 4, 3) := by decide +kernel
theorem dX6_prove_59 : decode cX6_prove 59 = .ok (.iconst 0, 1) := by decide +kernel
theorem dX6_prove_60 : decode cX6_prove 60 = .ok (.iastore, 1) := by decide +kernel
theorem dX6_prove_61 : decode cX6_prove 61 = .ok (.aload_n 0, 1) := by decide +kernel
theorem dX6_prove_62 : decode cX6_prove 62 = .ok (.iconst 1, 1) := by decide +kernel
theorem dX6_prove_63 : decode cX6_prove 63 = .ok (.iconst 0, 1) := by decide +kernel
theorem dX6_prove_64 : decode cX6_prove 64 = .ok (.invokevirtual 203, 3) := by decide +kernel
theorem dX6_prove_67 : decode cX6_prove 67 = .ok (.aload_n 0, 1) := by decide +kernel
theorem dX6_prove_68 : decode cX6_prove 68 = .ok (.getfield 28, 3) := by decide +kernel
theorem dX6_prove_71 : decode cX6_prove 71 = .ok (.iconst 3, 1) := by decide +kernel
theorem dX6_prove_72 : decode cX6_prove 72 = .ok (.iload_n 3, 1) := by decide +kernel
theorem dX6_prove_73 : decode cX6_prove 73 = .ok (.imul, 1) := by decide +kernel
theorem dX6_prove_74 : decode cX6_prove 74 = .ok (.iconst 1, 1) := by decide +kernel
theorem dX6_prove_75 : decode cX6_prove 75 = .ok (.iadd, 1) := by decide +kernel
theorem dX6_prove_76 : decode cX6_prove 76 = .ok (.aload_n 0, 1) := by decide +kernel
theorem dX6_prove_77 : decode cX6_prove 77 = .ok (.getfield 7, 3) := by decide +kernel
theorem dX6_prove_80 : decode cX6_prove 80 = .ok (.iconst 3, 1) := by decide +kernel
theorem dX6_prove_81 : decode cX6_prove 81 = .ok (.iaload, 1) := by decide +kernel
theorem dX6_prove_82 : decode cX6_prove 82 = .ok (.iastore, 1) := by decide +kernel
theorem dX6_prove_83 : decode cX6_prove 83 = .ok (.aload_n 0, 1) := by decide +kernel
theorem dX6_prove_84 : decode cX6_prove 84 = .ok (.getfield 28, 3) := by decide +kernel
theorem dX6_prove_87 : decode cX6_prove 87 = .ok (.iconst 3, 1) := by decide +kernel
theorem dX6_prove_88 : decode cX6_prove 88 = .ok (.iload_n 3, 1) := by decide +kernel
theorem dX6_prove_89 : decode cX6_prove 89 = .ok (.imul, 1) := by decide +kernel
theorem dX6_prove_90 : decode cX6_prove 90 = .ok (.iconst 2, 1) := by decide +kernel
theorem dX6_prove_91 : decode cX6_prove 91 = .ok (.iadd, 1) := by decide +kernel
theorem dX6_prove_92 : decode cX6_prove 92 = .ok (.aload_n 0, 1) := by decide +kernel
theorem dX6_prove_93 : decode cX6_prove 93 = .ok (.iload_n 1, 1) := by decide +kernel
theorem dX6_prove_94 : decode cX6_prove 94 = .ok (.iconst 4, 1) := by decide +kernel
theorem dX6_prove_95 : decode cX6_prove 95 = .ok (.invokevirtual 163, 3) := by decide +kernel
theorem dX6_prove_98 : decode cX6_prove 98 = .ok (.iastore, 1) := by decide +kernel
theorem dX6_prove_99 : decode cX6_prove 99 = .ok (.iinc 3 1, 3) := by decide +kernel
theorem dX6_prove_102 : decode cX6_prove 102 = .ok (.goto (-67), 3) := by decide +kernel
theorem dX6_prove_105 : decode cX6_prove 105 = .ok (.aload_n 0, 1) := by decide +kernel
theorem dX6_prove_106 : decode cX6_prove 106 = .ok (.getfield 16, 3) := by decide +kernel
theorem dX6_prove_109 : decode cX6_prove 109 = .ok (.aload_n 0, 1) := by decide +kernel
theorem dX6_prove_110 : decode cX6_prove 110 = .ok (.getfield 7, 3) := by decide +kernel
theorem dX6_prove_113 : decode cX6_prove 113 = .ok (.invokestatic 138, 3) := by decide +kernel
theorem dX6_prove_116 : decode cX6_prove 116 = .ok (.aload_n 0, 1) := by decide +kernel
theorem dX6_prove_117 : decode cX6_prove 117 = .ok (.iload_n 2, 1) := by decide +kernel
theorem dX6_prove_118 : decode cX6_prove 118 = .ok (.putfield 145, 3) := by decide +kernel
theorem dX6_prove_121 : decode cX6_prove 121 = .ok (.iload_n 2, 1) := by decide +kernel
theorem dX6_prove_122 : decode cX6_prove 122 = .ok (.ireturn, 1) := by decide +kernel
set_option maxRecDepth 20000 in
theorem ggX6_isRow_X6_isIn : GoodIn wsX6_isRow wsX6_isIn := goodIn_r _ [6] (by decide +kernel) (by decide +kernel)
set_option maxRecDepth 20000 in
theorem gX6_isRow_X6_isIn : GoodIn wsX6_isRow (va_wsS RX6 57 yX6_isIn wsX6_isIn) := goodIn_app (goodIn_of _ (by decide +kernel)) ggX6_isRow_X6_isIn
theorem dX6_isRow_0 : decode cX6_isRow 0 = .ok (.iload_n 1, 1) := by decide +kernel
theorem dX6_isRow_1 : decode cX6_isRow 1 = .ok (.i2l, 1) := by decide +kernel
theorem dX6_isRow_2 : decode cX6_isRow 2 = .ok (.lconst 0, 1) := by decide +kernel
theorem dX6_isRow_3 : decode cX6_isRow 3 = .ok (.aload_n 0, 1) := by decide +kernel
theorem dX6_isRow_4 : decode cX6_isRow 4 = .ok (.getfield 145, 3) := by decide +kernel
theorem dX6_isRow_7 : decode cX6_isRow 7 = .ok (.iconst 1, 1) := by decide +kernel
theorem dX6_isRow_8 : decode cX6_isRow 8 = .ok (.isub, 1) := by decide +kernel
theorem dX6_isRow_9 : decode cX6_isRow 9 = .ok (.i2l, 1) := by decide +kernel
theorem dX6_isRow_10 : decode cX6_isRow 10 = .ok (.invokestatic 57, 3) := by decide +kernel
theorem dX6_isRow_13 : decode cX6_isRow 13 = .ok (.ifCond .eq 19, 3) := by decide +kernel
theorem dX6_isRow_16 : decode cX6_isRow 16 = .ok (.iload_n 2, 1) := by decide +kernel
theorem dX6_isRow_17 : decode cX6_isRow 17 = .ok (.i2l, 1) := by decide +kernel
theorem dX6_isRow_18 : decode cX6_isRow 18 = .ok (.lconst 0, 1) := by decide +kernel
theorem dX6_isRow_19 : decode cX6_isRow 19 = .ok (.ldc2_w 258, 3) := by decide +kernel
theorem dX6_isRow_22 : decode cX6_isRow 22 = .ok (.invokestatic 57, 3) := by decide +kernel
theorem dX6_isRow_25 : decode cX6_isRow 25 = .ok (.ifCond .eq 7, 3) := by decide +kernel
theorem dX6_isRow_28 : decode cX6_isRow 28 = .ok (.iconst 1, 1) := by decide +kernel
theorem dX6_isRow_29 : decode cX6_isRow 29 = .ok (.goto 4, 3) := by decide +kernel
theorem dX6_isRow_32 : decode cX6_isRow 32 = .ok (.iconst 0, 1) := by decide +kernel
theorem dX6_isRow_33 : decode cX6_isRow 33 = .ok (.ireturn, 1) := by decide +kernel
set_option maxRecDepth 20000 in
theorem ggX6_row_X6_isRow : GoodIn wsX6_row wsX6_isRow := goodIn_r _ [6, 7, 8, 9, 10, 5, 11, 12, 13, 14, 15, 16, 17, 18, 19, 20, 21, 22, 23, 24, 25, 26, 27, 28, 29, 30, 31, 32, 33, 34, 35, 36, 37, 38] (by decide +kernel) (by decide +kernel)
set_option maxRecDepth 20000 in
theorem gX6_row_X6_isRow : GoodIn wsX6_row (wsV RX6 260 RX6 yX6_isRow wsX6_isRow) := goodIn_app (goodIn_of _ (by decide +kernel)) ggX6_row_X6_isRow
theorem dX6_row_0 : decode cX6_row 0 = .ok (.aload_n 0, 1) := by decide +kernel
theorem dX6_row_1 : decode cX6_row 1 = .ok (.iload_n 1, 1) := by decide +kernel
theorem dX6_row_2 : decode cX6_row 2 = .ok (.iload_n 2, 1) := by decide +kernel
theorem dX6_row_3 : decode cX6_row 3 = .ok (.invokevirtual 260, 3) := by decide +kernel
theorem dX6_row_6 : decode cX6_row 6 = .ok (.ifCond .eq 16, 3) := by decide +kernel
theorem dX6_row_9 : decode cX6_row 9 = .ok (.aload_n 0, 1) := by decide +kernel
theorem dX6_row_10 : decode cX6_row 10 = .ok (.getfield 28, 3) := by decide +kernel
theorem dX6_row_13 : decode cX6_row 13 = .ok (.iconst 3, 1) := by decide +kernel
theorem dX6_row_14 : decode cX6_row 14 = .ok (.iload_n 1, 1) := by decide +kernel
theorem dX6_row_15 : decode cX6_row 15 = .ok (.imul, 1) := by decide +kernel
theorem dX6_row_16 : decode cX6_row 16 = .ok (.iload_n 2, 1) := by decide +kernel
theorem dX6_row_17 : decode cX6_row 17 = .ok (.iadd, 1) := by decide +kernel
theorem dX6_row_18 : decode cX6_row 18 = .ok (.iaload, 1) := by decide +kernel
theorem dX6_row_19 : decode cX6_row 19 = .ok (.goto 5, 3) := by decide +kernel
theorem dX6_row_22 : decode cX6_row 22 = .ok (.bipush (-9), 2) := by decide +kernel
theorem dX6_row_24 : decode cX6_row 24 = .ok (.ireturn, 1) := by decide +kernel
set_option maxRecDepth 20000 in
theorem ggX6_alterRow_X6_isRow : GoodIn wsX6_alterRow wsX6_isRow := goodIn_r _ [6, 7, 8, 9, 10, 5, 11, 12, 13, 14, 15, 16, 17, 18, 19, 20, 21, 22, 23, 24, 25, 26, 27, 28, 29, 30, 31, 32, 33, 34, 35, 36, 37, 38] (by decide +kernel) (by decide +kernel)
set_option maxRecDepth 20000 in
theorem gX6_alterRow_X6_isRow : GoodIn wsX6_alterRow (wsV RX6 260 RX6 yX6_isRow wsX6_isRow) := goodIn_app (goodIn_of _ (by decide +kernel)) ggX6_alterRow_X6_isRow
theorem dX6_alterRow_0 : decode cX6_alterRow 0 = .ok (.aload_n 0, 1) := by decide +kernel
theorem dX6_alterRow_1 : decode cX6_alterRow 1 = .ok (.iload_n 1, 1) := by decide +kernel
theorem dX6_alterRow_2 : decode cX6_alterRow 2 = .ok (.iload_n 2, 1) := by decide +kernel
theorem dX6_alterRow_3 : decode cX6_alterRow 3 = .ok (.invokevirtual 260, 3) := by decide +kernel
theorem dX6_alterRow_6 : decode cX6_alterRow 6 = .ok (.ifCond .ne 6, 3) := by decide +kernel
theorem dX6_alterRow_9 : decode cX6_alterRow 9 = .ok (.bipush (-9), 2) := by decide +kernel
theorem dX6_alterRow_11 : decode cX6_alterRow 11 = .ok (.ireturn, 1) := by decide +kernel
theorem dX6_alterRow_12 : decode cX6_alterRow 12 = .ok (.aload_n 0, 1) := by decide +kernel
theorem dX6_alterRow_13 : decode cX6_alterRow 13 = .ok (.getfield 28, 3) := by decide +kernel
theorem dX6_alterRow_16 : decode cX6_alterRow 16 = .ok (.iconst 3, 1) := by decide +kernel
theorem dX6_alterRow_17 : decode cX6_alterRow 17 = .ok (.iload_n 1, 1) := by decide +kernel
theorem dX6_alterRow_18 : decode cX6_alterRow 18 = .ok (.imul, 1) := by decide +kernel
theorem dX6_alterRow_19 : decode cX6_alterRow 19 = .ok (.iload_n 2, 1) := by decide +kernel
theorem dX6_alterRow_20 : decode cX6_alterRow 20 = .ok (.iadd, 1) := by decide +kernel
theorem dX6_alterRow_21 : decode cX6_alterRow 21 = .ok (.iaload, 1) := by decide +kernel
theorem dX6_alterRow_22 : decode cX6_alterRow 22 = .ok (.istore 4, 2) := by decide +kernel
theorem dX6_alterRow_24 : decode cX6_alterRow 24 = .ok (.aload_n 0, 1) := by decide +kernel
theorem dX6_alterRow_25 : decode cX6_alterRow 25 = .ok (.getfield 28, 3) := by decide +kernel
theorem dX6_alterRow_28 : decode cX6_alterRow 28 = .ok (.iconst 3, 1) := by decide +kernel
theorem dX6_alterRow_29 : decode cX6_alterRow 29 = .ok (.iload_n 1, 1) := by decide +kernel
theorem dX6_alterRow_30 : decode cX6_alterRow 30 = .ok (.imul, 1) := by decide +kernel
theorem dX6_alterRow_31 : decode cX6_alterRow 31 = .ok (.iload_n 2, 1) := by decide +kernel
theorem dX6_alterRow_32 : decode cX6_alterRow 32 = .ok (.iadd, 1) := by decide +kernel
theorem dX6_alterRow_33 : decode cX6_alterRow 33 = .ok (.iload_n 3, 1) := by decide +kernel
theorem dX6_alterRow_34 : decode cX6_alterRow 34 = .ok (.iastore, 1) := by decide +kernel
theorem dX6_alterRow_35 : decode cX6_alterRow 35 = .ok (.iload 4, 2) := by decide +kernel
theorem dX6_alterRow_37 : decode cX6_alterRow 37 = .ok (.ireturn, 1) := by decide +kernel
set_option maxRecDepth 20000 in
theorem ggX6_judge_X6_isOne : GoodIn wsX6_judge wsX6_isOne := goodIn_r _ [9, 1, 53, 54, 55, 56, 57, 58, 59, 60, 61, 62, 63, 64, 65, 66, 67, 68, 69, 70, 71, 72, 73, 74, 75, 76, 77, 78, 79] (by decide +kernel) (by decide +kernel)
set_option maxRecDepth 20000 in
theorem gX6_judge_X6_isOne : GoodIn wsX6_judge (wsV RX6 166 RX6 yX6_isOne wsX6_isOne) := goodIn_app (goodIn_of _ (by decide +kernel)) ggX6_judge_X6_isOne
set_option maxRecDepth 20000 in
theorem ggX6_judge_X6_copyRow : GoodIn wsX6_judge wsX6_copyRow := goodIn_r _ [12] (by decide +kernel) (by decide +kernel)
set_option maxRecDepth 20000 in
theorem gX6_judge_X6_copyRow : GoodIn wsX6_judge (va_wsS RX6 138 yX6_copyRow wsX6_copyRow) := goodIn_app (goodIn_of _ (by decide +kernel)) ggX6_judge_X6_copyRow
set_option maxRecDepth 20000 in
theorem ggX6_judge_X6_sounds : GoodIn wsX6_judge wsX6_sounds := goodIn_r _ [16, 1, 17, 18, 19, 8, 20, 53, 54, 55, 56, 57, 58, 59, 60, 61, 62, 63, 64, 65, 66, 67, 68, 69, 70, 71, 72, 73, 74, 75, 76, 77, 78, 79] (by decide +kernel) (by decide +kernel)
set_option maxRecDepth 20000 in
theorem gX6_judge_X6_sounds : GoodIn wsX6_judge (wsV RX6 174 RX6 yX6_sounds wsX6_sounds) := goodIn_app (goodIn_of _ (by decide +kernel)) ggX6_judge_X6_sounds
set_option maxRecDepth 20000 in
theorem ggX6_judge_X6_goes : GoodIn wsX6_judge wsX6_goes := goodIn_r _ [24, 25, 26, 27, 8, 28, 1, 13, 14, 15, 16, 17, 18, 19, 20, 29, 30, 31, 32, 33, 34, 35, 36, 37, 38, 39, 40, 41, 42, 43, 44, 45, 46, 47, 48, 49, 50, 51, 52, 53, 54, 55, 56, 57, 58, 59, 60, 61, 62, 63, 64, 65, 66, 67, 68, 69, 70, 71, 72, 73, 74, 75, 76, 77, 78, 79] (by decide +kernel) (by decide +kernel)
set_option maxRecDepth 20000 in
theorem gX6_judge_X6_goes : GoodIn wsX6_judge (wsV RX6 203 RX6 yX6_goes wsX6_goes) := goodIn_app (goodIn_of _ (by decide +kernel)) ggX6_judge_X6_goes
set_option maxRecDepth 20000 in
theorem ggX6_judge_X6_its : GoodIn wsX6_judge wsX6_its := goodIn_r _ [20, 1, 53, 54, 55, 56, 57, 58, 59, 60, 61, 62, 63, 64, 65, 66, 67, 68, 69, 70, 71, 72, 73, 74, 75, 76, 77, 78, 79] (by decide +kernel) (by decide +kernel)
set_option maxRecDepth 20000 in
theorem gX6_judge_X6_its : GoodIn wsX6_judge (wsV RX6 163 RX6 yX6_its wsX6_its) := goodIn_app (goodIn_of _ (by decide +kernel)) ggX6_judge_X6_its
theorem dX6_judge_0 : decode cX6_judge 0 = .ok (.aload_n 0, 1) := by decide +kernel
theorem dX6_judge_1 : decode cX6_judge 1 = .ok (.iload_n 1, 1) := by decide +kernel
theorem dX6_judge_2 : decode cX6_judge 2 = .ok (.invokevirtual 166, 3) := by decide +kernel
theorem dX6_judge_5 : decode cX6_judge 5 = .ok (.ifCond .ne 5, 3) := by decide +kernel
theorem dX6_judge_8 : decode cX6_judge 8 = .ok (.iconst (-1), 1) := by decide +kernel
theorem dX6_judge_9 : decode cX6_judge 9 = .ok (.ireturn, 1) := by decide +kernel
theorem dX6_judge_10 : decode cX6_judge 10 = .ok (.aload_n 0, 1) := by decide +kernel
theorem dX6_judge_11 : decode cX6_judge 11 = .ok (.getfield 7, 3) := by decide +kernel
theorem dX6_judge_14 : decode cX6_judge 14 = .ok (.aload_n 0, 1) := by decide +kernel
theorem dX6_judge_15 : decode cX6_judge 15 = .ok (.getfield 16, 3) := by decide +kernel
theorem dX6_judge_18 : decode cX6_judge 18 = .ok (.invokestatic 138, 3) := by decide +kernel
theorem dX6_judge_21 : decode cX6_judge 21 = .ok (.iconst 0, 1) := by decide +kernel
theorem dX6_judge_22 : decode cX6_judge 22 = .ok (.istore_n 2, 1) := by decide +kernel
theorem dX6_judge_23 : decode cX6_judge 23 = .ok (.iconst 1, 1) := by decide +kernel
theorem dX6_judge_24 : decode cX6_judge 24 = .ok (.istore_n 3, 1) := by decide +kernel
theorem dX6_judge_25 : decode cX6_judge 25 = .ok (.iload_n 2, 1) := by decide +kernel
theorem dX6_judge_26 : decode cX6_judge 26 = .ok (.aload_n 0, 1) := by decide +kernel
theorem dX6_judge_27 : decode cX6_judge 27 = .ok (.getfield 145, 3) := by decide +kernel
theorem dX6_judge_30 : decode cX6_judge 30 = .ok (.if_icmp .ge 97, 3) := by decide +kernel
theorem dX6_judge_33 : decode cX6_judge 33 = .ok (.iload_n 3, 1) := by decide +kernel
theorem dX6_judge_34 : decode cX6_judge 34 = .ok (.ifCond .eq 93, 3) := by decide +kernel
theorem dX6_judge_37 : decode cX6_judge 37 = .ok (.aload_n 0, 1) := by decide +kernel
theorem dX6_judge_38 : decode cX6_judge 38 = .ok (.getfield 28, 3) := by decide +kernel
theorem dX6_judge_41 : decode cX6_judge 41 = .ok (.iconst 3, 1) := by decide +kernel
theorem dX6_judge_42 : decode cX6_judge 42 = .ok (.iload_n 2, 1) := by decide +kernel
theorem dX6_judge_43 : decode cX6_judge 43 = .ok (.imul, 1) := by decide +kernel
theorem dX6_judge_44 : decode cX6_judge 44 = .ok (.iaload, 1) := by decide +kernel
theorem dX6_judge_45 : decode cX6_judge 45 = .ok (.aload_n 0, 1) := by decide +kernel
theorem dX6_judge_46 : decode cX6_judge 46 = .ok (.iload_n 1, 1) := by decide +kernel
theorem dX6_judge_47 : decode cX6_judge 47 = .ok (.invokevirtual 174, 3) := by decide +kernel
theorem dX6_judge_50 : decode cX6_judge 50 = .ok (.ifCond .eq 7, 3) := by decide +kernel
theorem dX6_judge_53 : decode cX6_judge 53 = .ok (.iconst 1, 1) := by decide +kernel
theorem dX6_judge_54 : decode cX6_judge 54 = .ok (.goto 4, 3) := by decide +kernel
theorem dX6_judge_57 : decode cX6_judge 57 = .ok (.iconst 0, 1) := by decide +kernel
theorem dX6_judge_58 : decode cX6_judge 58 = .ok (.if_icmp .ne 7, 3) := by decide +kernel
theorem dX6_judge_61 : decode cX6_judge 61 = .ok (.iconst 1, 1) := by decide +kernel
theorem dX6_judge_62 : decode cX6_judge 62 = .ok (.goto 4, 3) := by decide +kernel
theorem dX6_judge_65 : decode cX6_judge 65 = .ok (.iconst 0, 1) := by decide +kernel
theorem dX6_judge_66 : decode cX6_judge 66 = .ok (.istore_n 3, 1) := by decide +kernel
theorem dX6_judge_67 : decode cX6_judge 67 = .ok (.aload_n 0, 1) := by decide +kernel
theorem dX6_judge_68 : decode cX6_judge 68 = .ok (.iconst 1, 1) := by decide +kernel
theorem dX6_judge_69 : decode cX6_judge 69 = .ok (.iconst 0, 1) := by decide +kernel
theorem dX6_judge_70 : decode cX6_judge 70 = .ok (.invokevirtual 203, 3) := by decide +kernel
theorem dX6_judge_73 : decode cX6_judge 73 = .ok (.iload_n 3, 1) := by decide +kernel
theorem dX6_judge_74 : decode cX6_judge 74 = .ok (.ifCond .eq 45, 3) := by decide +kernel
theorem dX6_judge_77 : decode cX6_judge 77 = .ok (.aload_n 0, 1) := by decide +kernel
theorem dX6_judge_78 : decode cX6_judge 78 = .ok (.getfield 28, 3) := by decide +kernel
theorem dX6_judge_81 : decode cX6_judge 81 = .ok (.iconst 3, 1) := by decide +kernel
theorem dX6_judge_82 : decode cX6_judge 82 = .ok (.iload_n 2, 1) := by decide +kernel
theorem dX6_judge_83 : decode cX6_judge 83 = .ok (.imul, 1) := by decide +kernel
theorem dX6_judge_84 : decode cX6_judge 84 = .ok (.iconst 1, 1) := by decide +kernel
theorem dX6_judge_85 : decode cX6_judge 85 = .ok (.iadd, 1) := by decide +kernel
theorem dX6_judge_86 : decode cX6_judge 86 = .ok (.iaload, 1) := by decide +kernel
theorem dX6_judge_87 : decode cX6_judge 87 = .ok (.aload_n 0, 1) := by decide +kernel
theorem dX6_judge_88 : decode cX6_judge 88 = .ok (.getfield 7, 3) := by decide +kernel
theorem dX6_judge_91 : decode cX6_judge 91 = .ok (.iconst 3, 1) := by decide +kernel
theorem dX6_judge_92 : decode cX6_judge 92 = .ok (.iaload, 1) := by decide +kernel
theorem dX6_judge_93 : decode cX6_judge 93 = .ok (.if_icmp .ne 26, 3) := by decide +kernel
theorem dX6_judge_96 : decode cX6_judge 96 = .ok (.aload_n 0, 1) := by decide +kernel
theorem dX6_judge_97 : decode cX6_judge 97 = .ok (.getfield 28, 3) := by decide +kernel
theorem dX6_judge_100 : decode cX6_judge 100 = .ok (.iconst 3, 1) := by decide +kernel
theorem dX6_judge_101 : decode cX6_judge 101 = .ok (.iload_n 2, 1) := by decide +kernel
theorem dX6_judge_102 : decode cX6_judge 102 = .ok (.imul, 1) := by decide +kernel
theorem dX6_judge_103 : decode cX6_judge 103 = .ok (.iconst 2, 1) := by decide +kernel
theorem dX6_judge_104 : decode cX6_judge 104 = .ok (.iadd, 1) := by decide +kernel
theorem dX6_judge_105 : decode cX6_judge 105 = .ok (.iaload, 1) := by decide +kernel
theorem dX6_judge_106 : decode cX6_judge 106 = .ok (.aload_n 0, 1) := by decide +kernel
theorem dX6_judge_107 : decode cX6_judge 107 = .ok (.iload_n 1, 1) := by decide +kernel
theorem dX6_judge_108 : decode cX6_judge 108 = .ok (.iconst 4, 1) := by decide +kernel
theorem dX6_judge_109 : decode cX6_judge 109 = .ok (.invokevirtual 163, 3) := by decide +kernel
theorem dX6_judge_112 : decode cX6_judge 112 = .ok (.if_icmp .ne 7, 3) := by decide +kernel
theorem dX6_judge_115 : decode cX6_judge 115 = .ok (.iconst 1, 1) := by decide +kernel
theorem dX6_judge_116 : decode cX6_judge 116 = .ok (.goto 4, 3) := by decide +kernel
theorem dX6_judge_119 : decode cX6_judge 119 = .ok (.iconst 0, 1) := by decide +kernel
theorem dX6_judge_120 : decode cX6_judge 120 = .ok (.istore_n 3, 1) := by decide +kernel
theorem dX6_judge_121 : decode cX6_judge 121 = .ok (.iinc 2 1, 3) := by decide +kernel
theorem dX6_judge_124 : decode cX6_judge 124 = .ok (.goto (-99), 3) := by decide +kernel
theorem dX6_judge_127 : decode cX6_judge 127 = .ok (.aload_n 0, 1) := by decide +kernel
theorem dX6_judge_128 : decode cX6_judge 128 = .ok (.getfield 16, 3) := by decide +kernel
theorem dX6_judge_131 : decode cX6_judge 131 = .ok (.aload_n 0, 1) := by decide +kernel
theorem dX6_judge_132 : decode cX6_judge 132 = .ok (.getfield 7, 3) := by decide +kernel
theorem dX6_judge_135 : decode cX6_judge 135 = .ok (.invokestatic 138, 3) := by decide +kernel
theorem dX6_judge_138 : decode cX6_judge 138 = .ok (.iload_n 3, 1) := by decide +kernel
theorem dX6_judge_139 : decode cX6_judge 139 = .ok (.ifCond .eq 7, 3) := by decide +kernel
theorem dX6_judge_142 : decode cX6_judge 142 = .ok (.iconst 0, 1) := by decide +kernel
theorem dX6_judge_143 : decode cX6_judge 143 = .ok (.goto 4, 3) := by decide +kernel
theorem dX6_judge_146 : decode cX6_judge 146 = .ok (.iload_n 2, 1) := by decide +kernel
theorem dX6_judge_147 : decode cX6_judge 147 = .ok (.ireturn, 1) := by decide +kernel
set_option maxRecDepth 20000 in
theorem ggX6_isSheet_X6_isIn : GoodIn wsX6_isSheet wsX6_isIn := goodIn_r _ [5] (by decide +kernel) (by decide +kernel)
set_option maxRecDepth 20000 in
theorem gX6_isSheet_X6_isIn : GoodIn wsX6_isSheet (va_wsS RX6 57 yX6_isIn wsX6_isIn) := goodIn_app (goodIn_of _ (by decide +kernel)) ggX6_isSheet_X6_isIn
theorem dX6_isSheet_0 : decode cX6_isSheet 0 = .ok (.iload_n 0, 1) := by decide +kernel
theorem dX6_isSheet_1 : decode cX6_isSheet 1 = .ok (.i2l, 1) := by decide +kernel
theorem dX6_isSheet_2 : decode cX6_isSheet 2 = .ok (.lconst 0, 1) := by decide +kernel
theorem dX6_isSheet_3 : decode cX6_isSheet 3 = .ok (.ldc2_w 148, 3) := by decide +kernel
theorem dX6_isSheet_6 : decode cX6_isSheet 6 = .ok (.invokestatic 57, 3) := by decide +kernel
theorem dX6_isSheet_9 : decode cX6_isSheet 9 = .ok (.ireturn, 1) := by decide +kernel
set_option maxRecDepth 20000 in
theorem ggX6_isShelf_X6_isIn : GoodIn wsX6_isShelf wsX6_isIn := goodIn_r _ [5] (by decide +kernel) (by decide +kernel)
set_option maxRecDepth 20000 in
theorem gX6_isShelf_X6_isIn : GoodIn wsX6_isShelf (va_wsS RX6 57 yX6_isIn wsX6_isIn) := goodIn_app (goodIn_of _ (by decide +kernel)) ggX6_isShelf_X6_isIn
theorem dX6_isShelf_0 : decode cX6_isShelf 0 = .ok (.iload_n 0, 1) := by decide +kernel
theorem dX6_isShelf_1 : decode cX6_isShelf 1 = .ok (.i2l, 1) := by decide +kernel
theorem dX6_isShelf_2 : decode cX6_isShelf 2 = .ok (.lconst 0, 1) := by decide +kernel
theorem dX6_isShelf_3 : decode cX6_isShelf 3 = .ok (.ldc2_w 148, 3) := by decide +kernel
theorem dX6_isShelf_6 : decode cX6_isShelf 6 = .ok (.invokestatic 57, 3) := by decide +kernel
theorem dX6_isShelf_9 : decode cX6_isShelf 9 = .ok (.ireturn, 1) := by decide +kernel
set_option maxRecDepth 20000 in
theorem ggX6_sheet_X6_isSheet : GoodIn wsX6_sheet wsX6_isSheet := goodIn_r _ [9, 2, 10, 11, 8, 12] (by decide +kernel) (by decide +kernel)
set_option maxRecDepth 20000 in
theorem gX6_sheet_X6_isSheet : GoodIn wsX6_sheet (va_wsS RX6 238 yX6_isSheet wsX6_isSheet) := goodIn_app (goodIn_of _ (by decide +kernel)) ggX6_sheet_X6_isSheet
set_option maxRecDepth 20000 in
theorem ggX6_sheet_X6_isIn : GoodIn wsX6_sheet wsX6_isIn := goodIn_r _ [12] (by decide +kernel) (by decide +kernel)
set_option maxRecDepth 20000 in
theorem gX6_sheet_X6_isIn : GoodIn wsX6_sheet (va_wsS RX6 57 yX6_isIn wsX6_isIn) := goodIn_app (goodIn_of _ (by decide +kernel)) ggX6_sheet_X6_isIn
theorem dX6_sheet_0 : decode cX6_sheet 0 = .ok (.iload_n 1, 1) := by decide +kernel
theorem dX6_sheet_1 : decode cX6_sheet 1 = .ok (.invokestatic 238, 3) := by decide +kernel
theorem dX6_sheet_4 : decode cX6_sheet 4 = .ok (.ifCond .eq 27, 3) := by decide +kernel
theorem dX6_sheet_7 : decode cX6_sheet 7 = .ok (.iload_n 2, 1) := by decide +kernel
theorem dX6_sheet_8 : decode cX6_sheet 8 = .ok (.i2l, 1) := by decide +kernel
theorem dX6_sheet_9 : decode cX6_sheet 9 = .ok (.ldc2_w 244, 3) := by decide +kernel
theorem dX6_sheet_12 : decode cX6_sheet 12 = .ok (.ldc2_w 148, 3) := by decide +kernel
theorem dX6_sheet_15 : decode cX6_sheet 15 = .ok (.invokestatic 57, 3) := by decide +kernel
theorem dX6_sheet_18 : decode cX6_sheet 18 = .ok (.ifCond .eq 13, 3) := by decide +kernel
theorem dX6_sheet_21 : decode cX6_sheet 21 = .ok (.iload_n 2, 1) := by decide +kernel
theorem dX6_sheet_22 : decode cX6_sheet 22 = .ok (.ifCond .lt 11, 3) := by decide +kernel
theorem dX6_sheet_25 : decode cX6_sheet 25 = .ok (.iload_n 3, 1) := by decide +kernel
theorem dX6_sheet_26 : decode cX6_sheet 26 = .ok (.bipush 40, 2) := by decide +kernel
theorem dX6_sheet_28 : decode cX6_sheet 28 = .ok (.if_icmp .le 5, 3) := by decide +kernel
theorem dX6_sheet_31 : decode cX6_sheet 31 = .ok (.iconst (-1), 1) := by decide +kernel
theorem dX6_sheet_32 : decode cX6_sheet 32 = .ok (.ireturn, 1) := by decide +kernel
theorem dX6_sheet_33 : decode cX6_sheet 33 = .ok (.iload_n 2, 1) := by decide +kernel
theorem dX6_sheet_34 : decode cX6_sheet 34 = .ok (.ifCond .lt 10, 3) := by decide +kernel
theorem dX6_sheet_37 : decode cX6_sheet 37 = .ok (.iload_n 3, 1) := by decide +kernel
theorem dX6_sheet_38 : decode cX6_sheet 38 = .ok (.ifCond .ge 6, 3) := by decide +kernel
theorem dX6_sheet_41 : decode cX6_sheet 41 = .ok (.bipush (-14), 2) := by decide +kernel
theorem dX6_sheet_43 : decode cX6_sheet 43 = .ok (.ireturn, 1) := by decide +kernel
theorem dX6_sheet_44 : decode cX6_sheet 44 = .ok (.aload_n 0, 1) := by decide +kernel
theorem dX6_sheet_45 : decode cX6_sheet 45 = .ok (.getfield 31, 3) := by decide +kernel
theorem dX6_sheet_48 : decode cX6_sheet 48 = .ok (.iload_n 1, 1) := by decide +kernel
theorem dX6_sheet_49 : decode cX6_sheet 49 = .ok (.iload_n 2, 1) := by decide +kernel
theorem dX6_sheet_50 : decode cX6_sheet 50 = .ok (.iastore, 1) := by decide +kernel
theorem dX6_sheet_51 : decode cX6_sheet 51 = .ok (.aload_n 0, 1) := by decide +kernel
theorem dX6_sheet_52 : decode cX6_sheet 52 = .ok (.getfield 34, 3) := by decide +kernel
theorem dX6_sheet_55 : decode cX6_sheet 55 = .ok (.iload_n 1, 1) := by decide +kernel
theorem dX6_sheet_56 : decode cX6_sheet 56 = .ok (.iload_n 2, 1) := by decide +kernel
theorem dX6_sheet_57 : decode cX6_sheet 57 = .ok (.ifCond .ge 7, 3) := by decide +kernel
theorem dX6_sheet_60 : decode cX6_sheet 60 = .ok (.iconst 0, 1) := by decide +kernel
theorem dX6_sheet_61 : decode cX6_sheet 61 = .ok (.goto 4, 3) := by decide +kernel
theorem dX6_sheet_64 : decode cX6_sheet 64 = .ok (.iload_n 3, 1) := by decide +kernel
theorem dX6_sheet_65 : decode cX6_sheet 65 = .ok (.iastore, 1) := by decide +kernel
theorem dX6_sheet_66 : decode cX6_sheet 66 = .ok (.iconst 0, 1) := by decide +kernel
theorem dX6_sheet_67 : decode cX6_sheet 67 = .ok (.istore 4, 2) := by decide +kernel
theorem dX6_sheet_69 : decode cX6_sheet 69 = .ok (.iload 4, 2) := by decide +kernel
theorem dX6_sheet_71 : decode cX6_sheet 71 = .ok (.bipush 40, 2) := by decide +kernel
theorem dX6_sheet_73 : decode cX6_sheet 73 = .ok (.if_icmp .ge 22, 3) := by decide +kernel
theorem dX6_sheet_76 : decode cX6_sheet 76 = .ok (.aload_n 0, 1) := by decide +kernel
theorem dX6_sheet_77 : decode cX6_sheet 77 = .ok (.getfield 37, 3) := by decide +kernel
theorem dX6_sheet_80 : decode cX6_sheet 80 = .ok (.bipush 40, 2) := by decide +kernel
theorem dX6_sheet_82 : decode cX6_sheet 82 = .ok (.iload_n 1, 1) := by decide +kernel
theorem dX6_sheet_83 : decode cX6_sheet 83 = .ok (.imul, 1) := by decide +kernel
theorem dX6_sheet_84 : decode cX6_sheet 84 = .ok (.iload 4, 2) := by decide +kernel
theorem dX6_sheet_86 : decode cX6_sheet 86 = .ok (.iadd, 1) := by decide +kernel
theorem dX6_sheet_87 : decode cX6_sheet 87 = .ok (.iconst 0, 1) := by decide +kernel
theorem dX6_sheet_88 : decode cX6_sheet 88 = .ok (.iastore, 1) := by decide +kernel
theorem dX6_sheet_89 : decode cX6_sheet 89 = .ok (.iinc 4 1, 3) := by decide +kernel
theorem dX6_sheet_92 : decode cX6_sheet 92 = .ok (.goto (-23), 3) := by decide +kernel
theorem dX6_sheet_95 : decode cX6_sheet 95 = .ok (.iconst 1, 1) := by decide +kernel
theorem dX6_sheet_96 : decode cX6_sheet 96 = .ok (.ireturn, 1) := by decide +kernel
set_option maxRecDepth 20000 in
theorem ggX6_put_X6_isSheet : GoodIn wsX6_put wsX6_isSheet := goodIn_r _ [7, 8, 9, 10, 6, 11] (by decide +kernel) (by decide +kernel)
set_option maxRecDepth 20000 in
theorem gX6_put_X6_isSheet : GoodIn wsX6_put (va_wsS RX6 238 yX6_isSheet wsX6_isSheet) := goodIn_app (goodIn_of _ (by decide +kernel)) ggX6_put_X6_isSheet
set_option maxRecDepth 20000 in
theorem ggX6_put_X6_isIn : GoodIn wsX6_put wsX6_isIn := goodIn_r _ [11] (by decide +kernel) (by decide +kernel)
set_option maxRecDepth 20000 in
theorem gX6_put_X6_isIn : GoodIn wsX6_put (va_wsS RX6 57 yX6_isIn wsX6_isIn) := goodIn_app (goodIn_of _ (by decide +kernel)) ggX6_put_X6_isIn
theorem dX6_put_0 : decode cX6_put 0 = .ok (.iload_n 1, 1) := by decide +kernel
theorem dX6_put_1 : decode cX6_put 1 = .ok (.invokestatic 238, 3) := by decide +kernel
theorem dX6_put_4 : decode cX6_put 4 = .ok (.ifCond .ne 5, 3) := by decide +kernel
theorem dX6_put_7 : decode cX6_put 7 = .ok (.iconst (-1), 1) := by decide +kernel
theorem dX6_put_8 : decode cX6_put 8 = .ok (.ireturn, 1) := by decide +kernel
theorem dX6_put_9 : decode cX6_put 9 = .ok (.aload_n 0, 1) := by decide +kernel
theorem dX6_put_10 : decode cX6_put 10 = .ok (.getfield 31, 3) := by decide +kernel
theorem dX6_put_13 : decode cX6_put 13 = .ok (.iload_n 1, 1) := by decide +kernel
theorem dX6_put_14 : decode cX6_put 14 = .ok (.iaload, 1) := by decide +kernel
theorem dX6_put_15 : decode cX6_put 15 = .ok (.ifCond .ge 6, 3) := by decide +kernel
theorem dX6_put_18 : decode cX6_put 18 = .ok (.bipush (-11), 2) := by decide +kernel
theorem dX6_put_20 : decode cX6_put 20 = .ok (.ireturn, 1) := by decide +kernel
theorem dX6_put_21 : decode cX6_put 21 = .ok (.iload_n 2, 1) := by decide +kernel
theorem dX6_put_22 : decode cX6_put 22 = .ok (.i2l, 1) := by decide +kernel
theorem dX6_put_23 : decode cX6_put 23 = .ok (.lconst 0, 1) := by decide +kernel
theorem dX6_put_24 : decode cX6_put 24 = .ok (.aload_n 0, 1) := by decide +kernel
theorem dX6_put_25 : decode cX6_put 25 = .ok (.getfield 34, 3) := by decide +kernel
theorem dX6_put_28 : decode cX6_put 28 = .ok (.iload_n 1, 1) := by decide +kernel
theorem dX6_put_29 : decode cX6_put 29 = .ok (.iaload, 1) := by decide +kernel
theorem dX6_put_30 : decode cX6_put 30 = .ok (.iconst 1, 1) := by decide +kernel
theorem dX6_put_31 : decode cX6_put 31 = .ok (.isub, 1) := by decide +kernel
theorem dX6_put_32 : decode cX6_put 32 = .ok (.i2l, 1) := by decide +kernel
theorem dX6_put_33 : decode cX6_put 33 = .ok (.invokestatic 57, 3) := by decide +kernel
theorem dX6_put_36 : decode cX6_put 36 = .ok (.ifCond .ne 6, 3) := by decide +kernel
theorem dX6_put_39 : decode cX6_put 39 = .ok (.bipush (-12), 2) := by decide +kernel
theorem dX6_put_41 : decode cX6_put 41 = .ok (.ireturn, 1) := by decide +kernel
theorem dX6_put_42 : decode cX6_put 42 = .ok (.aload_n 0, 1) := by decide +kernel
theorem dX6_put_43 : decode cX6_put 43 = .ok (.getfield 37, 3) := by decide +kernel
theorem dX6_put_46 : decode cX6_put 46 = .ok (.bipush 40, 2) := by decide +kernel
theorem dX6_put_48 : decode cX6_put 48 = .ok (.iload_n 1, 1) := by decide +kernel
theorem dX6_put_49 : decode cX6_put 49 = .ok (.imul, 1) := by decide +kernel
theorem dX6_put_50 : decode cX6_put 50 = .ok (.iload_n 2, 1) := by decide +kernel
theorem dX6_put_51 : decode cX6_put 51 = .ok (.iadd, 1) := by decide +kernel
theorem dX6_put_52 : decode cX6_put 52 = .ok (.aload_n 0, 1) := by decide +kernel
theorem dX6_put_53 : decode cX6_put 53 = .ok (.getfield 31, 3) := by decide +kernel
theorem dX6_put_56 : decode cX6_put 56 = .ok (.iload_n 1, 1) := by decide +kernel
theorem dX6_put_57 : decode cX6_put 57 = .ok (.iaload, 1) := by decide +kernel
theorem dX6_put_58 : decode cX6_put 58 = .ok (.ifCond .ne 8, 3) := by decide +kernel
theorem dX6_put_61 : decode cX6_put 61 = .ok (.iload_n 3, 1) := by decide +kernel
theorem dX6_put_62 : decode cX6_put 62 = .ok (.i2b, 1) := by decide +kernel
theorem dX6_put_63 : decode cX6_put 63 = .ok (.goto 19, 3) := by decide +kernel
theorem dX6_put_66 : decode cX6_put 66 = .ok (.aload_n 0, 1) := by decide +kernel
theorem dX6_put_67 : decode cX6_put 67 = .ok (.getfield 31, 3) := by decide +kernel
theorem dX6_put_70 : decode cX6_put 70 = .ok (.iload_n 1, 1) := by decide +kernel
theorem dX6_put_71 : decode cX6_put 71 = .ok (.iaload, 1) := by decide +kernel
theorem dX6_put_72 : decode cX6_put 72 = .ok (.iconst 1, 1) := by decide +kernel
theorem dX6_put_73 : decode cX6_put 73 = .ok (.if_icmp .ne 8, 3) := by decide +kernel
theorem dX6_put_76 : decode cX6_put 76 = .ok (.iload_n 3, 1) := by decide +kernel
theorem dX6_put_77 : decode cX6_put 77 = .ok (.i2s, 1) := by decide +kernel
theorem dX6_put_78 : decode cX6_put 78 = .ok (.goto 4, 3) := by decide +kernel
theorem dX6_put_81 : decode cX6_put 81 = .ok (.iload_n 3, 1) := by decide +kernel
theorem dX6_put_82 : decode cX6_put 82 = .ok (.iastore, 1) := by decide +kernel
theorem dX6_put_83 : decode cX6_put 83 = .ok (.iconst 1, 1) := by decide +kernel
theorem dX6_put_84 : decode cX6_put 84 = .ok (.ireturn, 1) := by decide +kernel
theorem dX6_lacks_0 : decode cX6_lacks 0 = .ok (.aload_n 0, 1) := by decide +kernel
theorem dX6_lacks_1 : decode cX6_lacks 1 = .ok (.getfield 31, 3) := by decide +kernel
theorem dX6_lacks_4 : decode cX6_lacks 4 = .ok (.iload_n 1, 1) := by decide +kernel
theorem dX6_lacks_5 : decode cX6_lacks 5 = .ok (.iaload, 1) := by decide +kernel
theorem dX6_lacks_6 : decode cX6_lacks 6 = .ok (.ifCond .ge 8, 3) := by decide +kernel
theorem dX6_lacks_9 : decode cX6_lacks 9 = .ok (.bipush (-11), 2) := by decide +kernel
theorem dX6_lacks_11 : decode cX6_lacks 11 = .ok (.goto 19, 3) := by decide +kernel
theorem dX6_lacks_14 : decode cX6_lacks 14 = .ok (.aload_n 0, 1) := by decide +kernel
theorem dX6_lacks_15 : decode cX6_lacks 15 = .ok (.getfield 31, 3) := by decide +kernel
theorem dX6_lacks_18 : decode cX6_lacks 18 = .ok (.iload_n 1, 1) := by decide +kernel
theorem dX6_lacks_19 : decode cX6_lacks 19 = .ok (.iaload, 1) := by decide +kernel
theorem dX6_lacks_20 : decode cX6_lacks 20 = .ok (.iload_n 2, 1) := by decide +kernel
theorem dX6_lacks_21 : decode cX6_lacks 21 = .ok (.if_icmp .eq 8, 3) := by decide +kernel
theorem dX6_lacks_24 : decode cX6_lacks 24 = .ok (.bipush (-13), 2) := by decide +kernel
theorem dX6_lacks_26 : decode cX6_lacks 26 = .ok (.goto 4, 3) := by decide +kernel
theorem dX6_lacks_29 : decode cX6_lacks 29 = .ok (.iconst 0, 1) := by decide +kernel
theorem dX6_lacks_30 : decode cX6_lacks 30 = .ok (.ireturn, 1) := by decide +kernel
set_option maxRecDepth 20000 in
theorem ggX6_item_X6_isSheet : GoodIn wsX6_item wsX6_isSheet := goodIn_r _ [7, 1, 8, 9, 6, 10] (by decide +kernel) (by decide +kernel)
set_option maxRecDepth 20000 in
theorem gX6_item_X6_isSheet : GoodIn wsX6_item (va_wsS RX6 238 yX6_isSheet wsX6_isSheet) := goodIn_app (goodIn_of _ (by decide +kernel)) ggX6_item_X6_isSheet
set_option maxRecDepth 20000 in
theorem ggX6_item_X6_isIn : GoodIn wsX6_item wsX6_isIn := goodIn_r _ [10] (by decide +kernel) (by decide +kernel)
set_option maxRecDepth 20000 in
theorem gX6_item_X6_isIn : GoodIn wsX6_item (va_wsS RX6 57 yX6_isIn wsX6_isIn) := goodIn_app (goodIn_of _ (by decide +kernel)) ggX6_item_X6_isIn
set_option maxRecDepth 20000 in
theorem ggX6_item_X6_lacks : GoodIn wsX6_item wsX6_lacks := goodIn_r _ [14, 15, 16, 17, 18, 19, 20, 21, 22, 23, 24, 25, 26, 27, 28, 29, 30, 31, 32, 33, 34, 35, 36, 37, 38, 39, 40, 41, 42] (by decide +kernel) (by decide +kernel)
set_option maxRecDepth 20000 in
theorem gX6_item_X6_lacks : GoodIn wsX6_item (wsV RX6 264 RX6 yX6_lacks wsX6_lacks) := goodIn_app (goodIn_of _ (by decide +kernel)) ggX6_item_X6_lacks
theorem dX6_item_0 : decode cX6_item 0 = .ok (.iload_n 1, 1) := by decide +kernel
theorem dX6_item_1 : decode cX6_item 1 = .ok (.invokestatic 238, 3) := by decide +kernel
theorem dX6_item_4 : decode cX6_item 4 = .ok (.ifCond .eq 15, 3) := by decide +kernel
theorem dX6_item_7 : decode cX6_item 7 = .ok (.iload_n 2, 1) := by decide +kernel
theorem dX6_item_8 : decode cX6_item 8 = .ok (.i2l, 1) := by decide +kernel
theorem dX6_item_9 : decode cX6_item 9 = .ok (.lconst 0, 1) := by decide +kernel
theorem dX6_item_10 : decode cX6_item 10 = .ok (.ldc2_w 148, 3) := by decide +kernel
theorem dX6_item_13 : decode cX6_item 13 = .ok (.invokestatic 57, 3) := by decide +kernel
theorem dX6_item_16 : decode cX6_item 16 = .ok (.ifCond .ne 5, 3) := by decide +kernel
theorem dX6_item_19 : decode cX6_item 19 = .ok (.iconst (-1), 1) := by decide +kernel
theorem dX6_item_20 : decode cX6_item 20 = .ok (.ireturn, 1) := by decide +kernel
theorem dX6_item_21 : decode cX6_item 21 = .ok (.aload_n 0, 1) := by decide +kernel
theorem dX6_item_22 : decode cX6_item 22 = .ok (.iload_n 1, 1) := by decide +kernel
theorem dX6_item_23 : decode cX6_item 23 = .ok (.iload_n 2, 1) := by decide +kernel
theorem dX6_item_24 : decode cX6_item 24 = .ok (.invokevirtual 264, 3) := by decide +kernel
theorem dX6_item_27 : decode cX6_item 27 = .ok (.ifCond .eq 10, 3) := by decide +kernel
theorem dX6_item_30 : decode cX6_item 30 = .ok (.aload_n 0, 1) := by decide +kernel
theorem dX6_item_31 : decode cX6_item 31 = .ok (.iload_n 1, 1) := by decide +kernel
theorem dX6_item_32 : decode cX6_item 32 = .ok (.iload_n 2, 1) := by decide +kernel
theorem dX6_item_33 : decode cX6_item 33 = .ok (.invokevirtual 264, 3) := by decide +kernel
theorem dX6_item_36 : decode cX6_item 36 = .ok (.ireturn, 1) := by decide +kernel
theorem dX6_item_37 : decode cX6_item 37 = .ok (.iload_n 3, 1) := by decide +kernel
theorem dX6_item_38 : decode cX6_item 38 = .ok (.i2l, 1) := by decide +kernel
theorem dX6_item_39 : decode cX6_item 39 = .ok (.lconst 0, 1) := by decide +kernel
theorem dX6_item_40 : decode cX6_item 40 = .ok (.aload_n 0, 1) := by decide +kernel
theorem dX6_item_41 : decode cX6_item 41 = .ok (.getfield 34, 3) := by decide +kernel
theorem dX6_item_44 : decode cX6_item 44 = .ok (.iload_n 1, 1) := by decide +kernel
theorem dX6_item_45 : decode cX6_item 45 = .ok (.iaload, 1) := by decide +kernel
theorem dX6_item_46 : decode cX6_item 46 = .ok (.iconst 1, 1) := by decide +kernel
theorem dX6_item_47 : decode cX6_item 47 = .ok (.isub, 1) := by decide +kernel
theorem dX6_item_48 : decode cX6_item 48 = .ok (.i2l, 1) := by decide +kernel
theorem dX6_item_49 : decode cX6_item 49 = .ok (.invokestatic 57, 3) := by decide +kernel
theorem dX6_item_52 : decode cX6_item 52 = .ok (.ifCond .eq 17, 3) := by decide +kernel
theorem dX6_item_55 : decode cX6_item 55 = .ok (.aload_n 0, 1) := by decide +kernel
theorem dX6_item_56 : decode cX6_item 56 = .ok (.getfield 37, 3) := by decide +kernel
theorem dX6_item_59 : decode cX6_item 59 = .ok (.bipush 40, 2) := by decide +kernel
theorem dX6_item_61 : decode cX6_item 61 = .ok (.iload_n 1, 1) := by decide +kernel
theorem dX6_item_62 : decode cX6_item 62 = .ok (.imul, 1) := by decide +kernel
theorem dX6_item_63 : decode cX6_item 63 = .ok (.iload_n 3, 1) := by decide +kernel
theorem dX6_item_64 : decode cX6_item 64 = .ok (.iadd, 1) := by decide +kernel
theorem dX6_item_65 : decode cX6_item 65 = .ok (.iaload, 1) := by decide +kernel
theorem dX6_item_66 : decode cX6_item 66 = .ok (.goto 5, 3) := by decide +kernel
theorem dX6_item_69 : decode cX6_item 69 = .ok (.bipush (-12), 2) := by decide +kernel
theorem dX6_item_71 : decode cX6_item 71 = .ok (.ireturn, 1) := by decide +kernel
set_option maxRecDepth 20000 in
theorem ggX6_minds_X6_isSheet : GoodIn wsX6_minds wsX6_isSheet := goodIn_r _ [8, 9, 10, 11, 7, 12] (by decide +kernel) (by decide +kernel)
set_option maxRecDepth 20000 in
theorem gX6_minds_X6_isSheet : GoodIn wsX6_minds (va_wsS RX6 238 yX6_isSheet wsX6_isSheet) := goodIn_app (goodIn_of _ (by decide +kernel)) ggX6_minds_X6_isSheet
set_option maxRecDepth 20000 in
theorem ggX6_minds_X6_isOne : GoodIn wsX6_minds wsX6_isOne := goodIn_r _ [16, 2, 25, 26, 27, 28, 29, 30, 31, 32, 33, 34, 35, 36, 37, 38, 39, 40, 41, 42, 43, 44, 45, 46, 47, 48, 49, 50, 51] (by decide +kernel) (by decide +kernel)
set_option maxRecDepth 20000 in
theorem gX6_minds_X6_isOne : GoodIn wsX6_minds (wsV RX6 166 RX6 yX6_isOne wsX6_isOne) := goodIn_app (goodIn_of _ (by decide +kernel)) ggX6_minds_X6_isOne
set_option maxRecDepth 20000 in
theorem ggX6_minds_X6_isIn : GoodIn wsX6_minds wsX6_isIn := goodIn_r _ [12] (by decide +kernel) (by decide +kernel)
set_option maxRecDepth 20000 in
theorem gX6_minds_X6_isIn : GoodIn wsX6_minds (va_wsS RX6 57 yX6_isIn wsX6_isIn) := goodIn_app (goodIn_of _ (by decide +kernel)) ggX6_minds_X6_isIn
set_option maxRecDepth 20000 in
theorem ggX6_minds_X6_lacks : GoodIn wsX6_minds wsX6_lacks := goodIn_r _ [20, 21, 25, 26, 27, 28, 29, 30, 31, 32, 33, 34, 35, 36, 37, 38, 39, 40, 41, 42, 43, 44, 45, 46, 47, 48, 49, 50, 51] (by decide +kernel) (by decide +kernel)
set_option maxRecDepth 20000 in
theorem gX6_minds_X6_lacks : GoodIn wsX6_minds (wsV RX6 264 RX6 yX6_lacks wsX6_lacks) := goodIn_app (goodIn_of _ (by decide +kernel)) ggX6_minds_X6_lacks
set_option maxRecDepth 20000 in
theorem ggX6_minds_X6_within : GoodIn wsX6_minds wsX6_within := goodIn_r _ [24] (by decide +kernel) (by decide +kernel)
set_option maxRecDepth 20000 in
theorem gX6_minds_X6_within : GoodIn wsX6_minds (va_wsS RX6 267 yX6_within wsX6_within) := goodIn_app (goodIn_of _ (by decide +kernel)) ggX6_minds_X6_within
theorem dX6_minds_0 : decode cX6_minds 0 = .ok (.iload_n 1, 1) := by decide +kernel
theorem dX6_minds_1 : decode cX6_minds 1 = .ok (.invokestatic 238, 3) := by decide +kernel
theorem dX6_minds_4 : decode cX6_minds 4 = .ok (.ifCond .eq 37, 3) := by decide +kernel
theorem dX6_minds_7 : decode cX6_minds 7 = .ok (.aload_n 0, 1) := by decide +kernel
theorem dX6_minds_8 : decode cX6_minds 8 = .ok (.iload_n 3, 1) := by decide +kernel
theorem dX6_minds_9 : decode cX6_minds 9 = .ok (.invokevirtual 166, 3) := by decide +kernel
theorem dX6_minds_12 : decode cX6_minds 12 = .ok (.ifCond .eq 29, 3) := by decide +kernel
theorem dX6_minds_15 : decode cX6_minds 15 = .ok (.iload 4, 2) := by decide +kernel
theorem dX6_minds_17 : decode cX6_minds 17 = .ok (.i2l, 1) := by decide +kernel
theorem dX6_minds_18 : decode cX6_minds 18 = .ok (.lconst 0, 1) := by decide +kernel
theorem dX6_minds_19 : decode cX6_minds 19 = .ok (.ldc2_w 55, 3) := by decide +kernel
theorem dX6_minds_22 : decode cX6_minds 22 = .ok (.invokestatic 57, 3) := by decide +kernel
theorem dX6_minds_25 : decode cX6_minds 25 = .ok (.ifCond .eq 16, 3) := by decide +kernel
theorem dX6_minds_28 : decode cX6_minds 28 = .ok (.iload_n 3, 1) := by decide +kernel
theorem dX6_minds_29 : decode cX6_minds 29 = .ok (.iload 4, 2) := by decide +kernel
theorem dX6_minds_31 : decode cX6_minds 31 = .ok (.iadd, 1) := by decide +kernel
theorem dX6_minds_32 : decode cX6_minds 32 = .ok (.aload_n 0, 1) := by decide +kernel
theorem dX6_minds_33 : decode cX6_minds 33 = .ok (.getfield 7, 3) := by decide +kernel
theorem dX6_minds_36 : decode cX6_minds 36 = .ok (.iconst 0, 1) := by decide +kernel
theorem dX6_minds_37 : decode cX6_minds 37 = .ok (.iaload, 1) := by decide +kernel
theorem dX6_minds_38 : decode cX6_minds 38 = .ok (.if_icmp .le 5, 3) := by decide +kernel
theorem dX6_minds_41 : decode cX6_minds 41 = .ok (.iconst (-1), 1) := by decide +kernel
theorem dX6_minds_42 : decode cX6_minds 42 = .ok (.ireturn, 1) := by decide +kernel
theorem dX6_minds_43 : decode cX6_minds 43 = .ok (.aload_n 0, 1) := by decide +kernel
theorem dX6_minds_44 : decode cX6_minds 44 = .ok (.iload_n 1, 1) := by decide +kernel
theorem dX6_minds_45 : decode cX6_minds 45 = .ok (.iconst 0, 1) := by decide +kernel
theorem dX6_minds_46 : decode cX6_minds 46 = .ok (.invokevirtual 264, 3) := by decide +kernel
theorem dX6_minds_49 : decode cX6_minds 49 = .ok (.ifCond .eq 10, 3) := by decide +kernel
theorem dX6_minds_52 : decode cX6_minds 52 = .ok (.aload_n 0, 1) := by decide +kernel
theorem dX6_minds_53 : decode cX6_minds 53 = .ok (.iload_n 1, 1) := by decide +kernel
theorem dX6_minds_54 : decode cX6_minds 54 = .ok (.iconst 0, 1) := by decide +kernel
theorem dX6_minds_55 : decode cX6_minds 55 = .ok (.invokevirtual 264, 3) := by decide +kernel
theorem dX6_minds_58 : decode cX6_minds 58 = .ok (.ireturn, 1) := by decide +kernel
theorem dX6_minds_59 : decode cX6_minds 59 = .ok (.iload_n 2, 1) := by decide +kernel
theorem dX6_minds_60 : decode cX6_minds 60 = .ok (.i2l, 1) := by decide +kernel
theorem dX6_minds_61 : decode cX6_minds 61 = .ok (.lconst 0, 1) := by decide +kernel
theorem dX6_minds_62 : decode cX6_minds 62 = .ok (.aload_n 0, 1) := by decide +kernel
theorem dX6_minds_63 : decode cX6_minds 63 = .ok (.getfield 34, 3) := by decide +kernel
theorem dX6_minds_66 : decode cX6_minds 66 = .ok (.iload_n 1, 1) := by decide +kernel
theorem dX6_minds_67 : decode cX6_minds 67 = .ok (.iaload, 1) := by decide +kernel
theorem dX6_minds_68 : decode cX6_minds 68 = .ok (.i2l, 1) := by decide +kernel
theorem dX6_minds_69 : decode cX6_minds 69 = .ok (.invokestatic 57, 3) := by decide +kernel
theorem dX6_minds_72 : decode cX6_minds 72 = .ok (.ifCond .eq 20, 3) := by decide +kernel
theorem dX6_minds_75 : decode cX6_minds 75 = .ok (.iload_n 2, 1) := by decide +kernel
theorem dX6_minds_76 : decode cX6_minds 76 = .ok (.i2l, 1) := by decide +kernel
theorem dX6_minds_77 : decode cX6_minds 77 = .ok (.iload 4, 2) := by decide +kernel
theorem dX6_minds_79 : decode cX6_minds 79 = .ok (.i2l, 1) := by decide +kernel
theorem dX6_minds_80 : decode cX6_minds 80 = .ok (.ladd, 1) := by decide +kernel
theorem dX6_minds_81 : decode cX6_minds 81 = .ok (.aload_n 0, 1) := by decide +kernel
theorem dX6_minds_82 : decode cX6_minds 82 = .ok (.getfield 34, 3) := by decide +kernel
theorem dX6_minds_85 : decode cX6_minds 85 = .ok (.iload_n 1, 1) := by decide +kernel
theorem dX6_minds_86 : decode cX6_minds 86 = .ok (.iaload, 1) := by decide +kernel
theorem dX6_minds_87 : decode cX6_minds 87 = .ok (.i2l, 1) := by decide +kernel
theorem dX6_minds_88 : decode cX6_minds 88 = .ok (.lcmp, 1) := by decide +kernel
theorem dX6_minds_89 : decode cX6_minds 89 = .ok (.ifCond .le 6, 3) := by decide +kernel
theorem dX6_minds_92 : decode cX6_minds 92 = .ok (.bipush (-12), 2) := by decide +kernel
theorem dX6_minds_94 : decode cX6_minds 94 = .ok (.ireturn, 1) := by decide +kernel
theorem dX6_minds_95 : decode cX6_minds 95 = .ok (.iconst 0, 1) := by decide +kernel
theorem dX6_minds_96 : decode cX6_minds 96 = .ok (.istore 5, 2) := by decide +kernel
theorem dX6_minds_98 : decode cX6_minds 98 = .ok (.iload 5, 2) := by decide +kernel
theorem dX6_minds_100 : decode cX6_minds 100 = .ok (.iload 4, 2) := by decide +kernel
theorem dX6_minds_102 : decode cX6_minds 102 = .ok (.if_icmp .ge 42, 3) := by decide +kernel
theorem dX6_minds_105 : decode cX6_minds 105 = .ok (.aload_n 0, 1) := by decide +kernel
theorem dX6_minds_106 : decode cX6_minds 106 = .ok (.getfield 7, 3) := by decide +kernel
theorem dX6_minds_109 : decode cX6_minds 109 = .ok (.bipush 10, 2) := by decide +kernel
theorem dX6_minds_111 : decode cX6_minds 111 = .ok (.iconst 5, 1) := by decide +kernel
theorem dX6_minds_112 : decode cX6_minds 112 = .ok (.iload_n 3, 1) := by decide +kernel
theorem dX6_minds_113 : decode cX6_minds 113 = .ok (.iload 5, 2) := by decide +kernel
theorem dX6_minds_115 : decode cX6_minds 115 = .ok (.iadd, 1) := by decide +kernel
theorem dX6_minds_116 : decode cX6_minds 116 = .ok (.imul, 1) := by decide +kernel
theorem dX6_minds_117 : decode cX6_minds 117 = .ok (.iadd, 1) := by decide +kernel
theorem dX6_minds_118 : decode cX6_minds 118 = .ok (.iconst 2, 1) := by decide +kernel
theorem dX6_minds_119 : decode cX6_minds 119 = .ok (.iadd, 1) := by decide +kernel
theorem dX6_minds_120 : decode cX6_minds 120 = .ok (.aload_n 0, 1) := by decide +kernel
theorem dX6_minds_121 : decode cX6_minds 121 = .ok (.getfield 37, 3) := by decide +kernel
theorem dX6_minds_124 : decode cX6_minds 124 = .ok (.bipush 40, 2) := by decide +kernel
theorem dX6_minds_126 : decode cX6_minds 126 = .ok (.iload_n 1, 1) := by decide +kernel
theorem dX6_minds_127 : decode cX6_minds 127 = .ok (.imul, 1) := by decide +kernel
theorem dX6_minds_128 : decode cX6_minds 128 = .ok (.iload_n 2, 1) := by decide +kernel
theorem dX6_minds_129 : decode cX6_minds 129 = .ok (.iadd, 1) := by decide +kernel
theorem dX6_minds_130 : decode cX6_minds 130 = .ok (.iload 5, 2) := by decide +kernel
theorem dX6_minds_132 : decode cX6_minds 132 = .ok (.iadd, 1) := by decide +kernel
theorem dX6_minds_133 : decode cX6_minds 133 = .ok (.iaload, 1) := by decide +kernel
theorem dX6_minds_134 : decode cX6_minds 134 = .ok (.invokestatic 267, 3) := by decide +kernel
theorem dX6_minds_137 : decode cX6_minds 137 = .ok (.iastore, 1) := by decide +kernel
theorem dX6_minds_138 : decode cX6_minds 138 = .ok (.iinc 5 1, 3) := by decide +kernel
theorem dX6_minds_141 : decode cX6_minds 141 = .ok (.goto (-43), 3) := by decide +kernel
theorem dX6_minds_144 : decode cX6_minds 144 = .ok (.iload 4, 2) := by decide +kernel
theorem dX6_minds_146 : decode cX6_minds 146 = .ok (.ireturn, 1) := by decide +kernel
set_option maxRecDepth 20000 in
theorem ggX6_shelf_X6_isShelf : GoodIn wsX6_shelf wsX6_isShelf := goodIn_r _ [10, 11, 12, 13, 9, 14] (by decide +kernel) (by decide +kernel)
set_option maxRecDepth 20000 in
theorem gX6_shelf_X6_isShelf : GoodIn wsX6_shelf (va_wsS RX6 270 yX6_isShelf wsX6_isShelf) := goodIn_app (goodIn_of _ (by decide +kernel)) ggX6_shelf_X6_isShelf
set_option maxRecDepth 20000 in
theorem ggX6_shelf_X6_isIn : GoodIn wsX6_shelf wsX6_isIn := goodIn_r _ [14] (by decide +kernel) (by decide +kernel)
set_option maxRecDepth 20000 in
theorem gX6_shelf_X6_isIn : GoodIn wsX6_shelf (va_wsS RX6 57 yX6_isIn wsX6_isIn) := goodIn_app (goodIn_of _ (by decide +kernel)) ggX6_shelf_X6_isIn
set_option maxRecDepth 20000 in
theorem ggX6_shelf_X6_isOne : GoodIn wsX6_shelf wsX6_isOne := goodIn_r _ [18, 19, 23, 24, 25, 26, 27, 28, 29, 30, 31, 32, 33, 34, 35, 36, 37, 38, 39, 40, 41, 42, 43, 44, 45, 46, 47, 48, 49] (by decide +kernel) (by decide +kernel)
set_option maxRecDepth 20000 in
theorem gX6_shelf_X6_isOne : GoodIn wsX6_shelf (wsV RX6 166 RX6 yX6_isOne wsX6_isOne) := goodIn_app (goodIn_of _ (by decide +kernel)) ggX6_shelf_X6_isOne
set_option maxRecDepth 20000 in
theorem ggX6_shelf_X6_isSheet : GoodIn wsX6_shelf wsX6_isSheet := goodIn_r _ [22, 11, 12, 13, 9, 14] (by decide +kernel) (by decide +kernel)
set_option maxRecDepth 20000 in
theorem gX6_shelf_X6_isSheet : GoodIn wsX6_shelf (va_wsS RX6 238 yX6_isSheet wsX6_isSheet) := goodIn_app (goodIn_of _ (by decide +kernel)) ggX6_shelf_X6_isSheet
theorem dX6_shelf_0 : decode cX6_shelf 0 = .ok (.iload_n 1, 1) := by decide +kernel
theorem dX6_shelf_1 : decode cX6_shelf 1 = .ok (.invokestatic 270, 3) := by decide +kernel
theorem dX6_shelf_4 : decode cX6_shelf 4 = .ok (.ifCond .eq 39, 3) := by decide +kernel
theorem dX6_shelf_7 : decode cX6_shelf 7 = .ok (.iload_n 2, 1) := by decide +kernel
theorem dX6_shelf_8 : decode cX6_shelf 8 = .ok (.i2l, 1) := by decide +kernel
theorem dX6_shelf_9 : decode cX6_shelf 9 = .ok (.lconst 0, 1) := by decide +kernel
theorem dX6_shelf_10 : decode cX6_shelf 10 = .ok (.ldc2_w 258, 3) := by decide +kernel
theorem dX6_shelf_13 : decode cX6_shelf 13 = .ok (.invokestatic 57, 3) := by decide +kernel
theorem dX6_shelf_16 : decode cX6_shelf 16 = .ok (.ifCond .eq 27, 3) := by decide +kernel
theorem dX6_shelf_19 : decode cX6_shelf 19 = .ok (.iload_n 2, 1) := by decide +kernel
theorem dX6_shelf_20 : decode cX6_shelf 20 = .ok (.ifCond .ne 11, 3) := by decide +kernel
theorem dX6_shelf_23 : decode cX6_shelf 23 = .ok (.aload_n 0, 1) := by decide +kernel
theorem dX6_shelf_24 : decode cX6_shelf 24 = .ok (.iload_n 3, 1) := by decide +kernel
theorem dX6_shelf_25 : decode cX6_shelf 25 = .ok (.invokevirtual 166, 3) := by decide +kernel
theorem dX6_shelf_28 : decode cX6_shelf 28 = .ok (.ifCond .eq 15, 3) := by decide +kernel
theorem dX6_shelf_31 : decode cX6_shelf 31 = .ok (.iload_n 2, 1) := by decide +kernel
theorem dX6_shelf_32 : decode cX6_shelf 32 = .ok (.iconst 1, 1) := by decide +kernel
theorem dX6_shelf_33 : decode cX6_shelf 33 = .ok (.if_icmp .ne 12, 3) := by decide +kernel
theorem dX6_shelf_36 : decode cX6_shelf 36 = .ok (.iload_n 3, 1) := by decide +kernel
theorem dX6_shelf_37 : decode cX6_shelf 37 = .ok (.invokestatic 238, 3) := by decide +kernel
theorem dX6_shelf_40 : decode cX6_shelf 40 = .ok (.ifCond .ne 5, 3) := by decide +kernel
theorem dX6_shelf_43 : decode cX6_shelf 43 = .ok (.iconst (-1), 1) := by decide +kernel
theorem dX6_shelf_44 : decode cX6_shelf 44 = .ok (.ireturn, 1) := by decide +kernel
theorem dX6_shelf_45 : decode cX6_shelf 45 = .ok (.iload_n 2, 1) := by decide +kernel
theorem dX6_shelf_46 : decode cX6_shelf 46 = .ok (.iconst 1, 1) := by decide +kernel
theorem dX6_shelf_47 : decode cX6_shelf 47 = .ok (.if_icmp .ne 16, 3) := by decide +kernel
theorem dX6_shelf_50 : decode cX6_shelf 50 = .ok (.aload_n 0, 1) := by decide +kernel
theorem dX6_shelf_51 : decode cX6_shelf 51 = .ok (.getfield 31, 3) := by decide +kernel
theorem dX6_shelf_54 : decode cX6_shelf 54 = .ok (.iload_n 3, 1) := by decide +kernel
theorem dX6_shelf_55 : decode cX6_shelf 55 = .ok (.iaload, 1) := by decide +kernel
theorem dX6_shelf_56 : decode cX6_shelf 56 = .ok (.ifCond .lt 7, 3) := by decide +kernel
theorem dX6_shelf_59 : decode cX6_shelf 59 = .ok (.iconst 1, 1) := by decide +kernel
theorem dX6_shelf_60 : decode cX6_shelf 60 = .ok (.goto 4, 3) := by decide +kernel
theorem dX6_shelf_63 : decode cX6_shelf 63 = .ok (.iconst 0, 1) := by decide +kernel
theorem dX6_shelf_64 : decode cX6_shelf 64 = .ok (.istore 4, 2) := by decide +kernel
theorem dX6_shelf_66 : decode cX6_shelf 66 = .ok (.aload_n 0, 1) := by decide +kernel
theorem dX6_shelf_67 : decode cX6_shelf 67 = .ok (.getfield 40, 3) := by decide +kernel
theorem dX6_shelf_70 : decode cX6_shelf 70 = .ok (.iload_n 1, 1) := by decide +kernel
theorem dX6_shelf_71 : decode cX6_shelf 71 = .ok (.iload_n 2, 1) := by decide +kernel
theorem dX6_shelf_72 : decode cX6_shelf 72 = .ok (.ifCond .ne 7, 3) := by decide +kernel
theorem dX6_shelf_75 : decode cX6_shelf 75 = .ok (.iconst 1, 1) := by decide +kernel
theorem dX6_shelf_76 : decode cX6_shelf 76 = .ok (.goto 13, 3) := by decide +kernel
theorem dX6_shelf_79 : decode cX6_shelf 79 = .ok (.iload 4, 2) := by decide +kernel
theorem dX6_shelf_81 : decode cX6_shelf 81 = .ok (.ifCond .eq 7, 3) := by decide +kernel
theorem dX6_shelf_84 : decode cX6_shelf 84 = .ok (.iconst 2, 1) := by decide +kernel
theorem dX6_shelf_85 : decode cX6_shelf 85 = .ok (.goto 4, 3) := by decide +kernel
theorem dX6_shelf_88 : decode cX6_shelf 88 = .ok (.iconst 0, 1) := by decide +kernel
theorem dX6_shelf_89 : decode cX6_shelf 89 = .ok (.iastore, 1) := by decide +kernel
theorem dX6_shelf_90 : decode cX6_shelf 90 = .ok (.aload_n 0, 1) := by decide +kernel
theorem dX6_shelf_91 : decode cX6_shelf 91 = .ok (.getfield 43, 3) := by decide +kernel
theorem dX6_shelf_94 : decode cX6_shelf 94 = .ok (.iload_n 1, 1) := by decide +kernel
theorem dX6_shelf_95 : decode cX6_shelf 95 = .ok (.iload_n 2, 1) := by decide +kernel
theorem dX6_shelf_96 : decode cX6_shelf 96 = .ok (.ifCond .ne 7, 3) := by decide +kernel
theorem dX6_shelf_99 : decode cX6_shelf 99 = .ok (.iload_n 3, 1) := by decide +kernel
theorem dX6_shelf_100 : decode cX6_shelf 100 = .ok (.goto 18, 3) := by decide +kernel
theorem dX6_shelf_103 : decode cX6_shelf 103 = .ok (.iload 4, 2) := by decide +kernel
theorem dX6_shelf_105 : decode cX6_shelf 105 = .ok (.ifCond .eq 12, 3) := by decide +kernel
theorem dX6_shelf_108 : decode cX6_shelf 108 = .ok (.aload_n 0, 1) := by decide +kernel
theorem dX6_shelf_109 : decode cX6_shelf 109 = .ok (.getfield 31, 3) := by decide +kernel
theorem dX6_shelf_112 : decode cX6_shelf 112 = .ok (.iload_n 3, 1) := by decide +kernel
theorem dX6_shelf_113 : decode cX6_shelf 113 = .ok (.iaload, 1) := by decide +kernel
theorem dX6_shelf_114 : decode cX6_shelf 114 = .ok (.goto 4, 3) := by decide +kernel
theorem dX6_shelf_117 : decode cX6_shelf 117 = .ok (.iconst 0, 1) := by decide +kernel
theorem dX6_shelf_118 : decode cX6_shelf 118 = .ok (.iastore, 1) := by decide +kernel
theorem dX6_shelf_119 : decode cX6_shelf 119 = .ok (.aload_n 0, 1) := by decide +kernel
theorem dX6_shelf_120 : decode cX6_shelf 120 = .ok (.getfield 46, 3) := by decide +kernel
theorem dX6_shelf_123 : decode cX6_shelf 123 = .ok (.iload_n 1, 1) := by decide +kernel
theorem dX6_shelf_124 : decode cX6_shelf 124 = .ok (.iload 4, 2) := by decide +kernel
theorem dX6_shelf_126 : decode cX6_shelf 126 = .ok (.ifCond .eq 12, 3) := by decide +kernel
theorem dX6_shelf_129 : decode cX6_shelf 129 = .ok (.aload_n 0, 1) := by decide +kernel
theorem dX6_shelf_130 : decode cX6_shelf 130 = .ok (.getfield 34, 3) := by decide +kernel
theorem dX6_shelf_133 : decode cX6_shelf 133 = .ok (.iload_n 3, 1) := by decide +kernel
theorem dX6_shelf_134 : decode cX6_shelf 134 = .ok (.iaload, 1) := by decide +kernel
theorem dX6_shelf_135 : decode cX6_shelf 135 = .ok (.goto 4, 3) := by decide +kernel
theorem dX6_shelf_138 : decode cX6_shelf 138 = .ok (.iconst 0, 1) := by decide +kernel
theorem dX6_shelf_139 : decode cX6_shelf 139 = .ok (.iastore, 1) := by decide +kernel
theorem dX6_shelf_140 : decode cX6_shelf 140 = .ok (.iconst 1, 1) := by decide +kernel
theorem dX6_shelf_141 : decode cX6_shelf 141 = .ok (.ireturn, 1) := by decide +kernel
set_option maxRecDepth 20000 in
theorem ggX6_heldOn_X6_isOne : GoodIn wsX6_heldOn wsX6_isOne := goodIn_r _ [7, 8, 9, 10, 11, 12, 13, 14, 15, 16, 17, 18, 19, 20, 21, 22, 23, 24, 25, 26, 27, 28, 29, 30, 31, 32, 33, 34, 35] (by decide +kernel) (by decide +kernel)
set_option maxRecDepth 20000 in
theorem gX6_heldOn_X6_isOne : GoodIn wsX6_heldOn (wsV RX6 166 RX6 yX6_isOne wsX6_isOne) := goodIn_app (goodIn_of _ (by decide +kernel)) ggX6_heldOn_X6_isOne
theorem dX6_heldOn_0 : decode cX6_heldOn 0 = .ok (.aload_n 0, 1) := by decide +kernel
theorem dX6_heldOn_1 : decode cX6_heldOn 1 = .ok (.getfield 40, 3) := by decide +kernel
theorem dX6_heldOn_4 : decode cX6_heldOn 4 = .ok (.iload_n 1, 1) := by decide +kernel
theorem dX6_heldOn_5 : decode cX6_heldOn 5 = .ok (.iaload, 1) := by decide +kernel
theorem dX6_heldOn_6 : decode cX6_heldOn 6 = .ok (.iconst 1, 1) := by decide +kernel
theorem dX6_heldOn_7 : decode cX6_heldOn 7 = .ok (.if_icmp .ne 20, 3) := by decide +kernel
theorem dX6_heldOn_10 : decode cX6_heldOn 10 = .ok (.aload_n 0, 1) := by decide +kernel
theorem dX6_heldOn_11 : decode cX6_heldOn 11 = .ok (.aload_n 0, 1) := by decide +kernel
theorem dX6_heldOn_12 : decode cX6_heldOn 12 = .ok (.getfield 43, 3) := by decide +kernel
theorem dX6_heldOn_15 : decode cX6_heldOn 15 = .ok (.iload_n 1, 1) := by decide +kernel
theorem dX6_heldOn_16 : decode cX6_heldOn 16 = .ok (.iaload, 1) := by decide +kernel
theorem dX6_heldOn_17 : decode cX6_heldOn 17 = .ok (.invokevirtual 166, 3) := by decide +kernel
theorem dX6_heldOn_20 : decode cX6_heldOn 20 = .ok (.ifCond .ne 7, 3) := by decide +kernel
theorem dX6_heldOn_23 : decode cX6_heldOn 23 = .ok (.iconst 0, 1) := by decide +kernel
theorem dX6_heldOn_24 : decode cX6_heldOn 24 = .ok (.goto 9, 3) := by decide +kernel
theorem dX6_heldOn_27 : decode cX6_heldOn 27 = .ok (.aload_n 0, 1) := by decide +kernel
theorem dX6_heldOn_28 : decode cX6_heldOn 28 = .ok (.getfield 40, 3) := by decide +kernel
theorem dX6_heldOn_31 : decode cX6_heldOn 31 = .ok (.iload_n 1, 1) := by decide +kernel
theorem dX6_heldOn_32 : decode cX6_heldOn 32 = .ok (.iaload, 1) := by decide +kernel
theorem dX6_heldOn_33 : decode cX6_heldOn 33 = .ok (.ireturn, 1) := by decide +kernel
set_option maxRecDepth 20000 in
theorem ggX6_taken_X6_isShelf : GoodIn wsX6_taken wsX6_isShelf := goodIn_r _ [9, 10, 11, 12, 8, 13] (by decide +kernel) (by decide +kernel)
set_option maxRecDepth 20000 in
theorem gX6_taken_X6_isShelf : GoodIn wsX6_taken (va_wsS RX6 270 yX6_isShelf wsX6_isShelf) := goodIn_app (goodIn_of _ (by decide +kernel)) ggX6_taken_X6_isShelf
set_option maxRecDepth 20000 in
theorem ggX6_taken_X6_isIn : GoodIn wsX6_taken wsX6_isIn := goodIn_r _ [13] (by decide +kernel) (by decide +kernel)
set_option maxRecDepth 20000 in
theorem gX6_taken_X6_isIn : GoodIn wsX6_taken (va_wsS RX6 57 yX6_isIn wsX6_isIn) := goodIn_app (goodIn_of _ (by decide +kernel)) ggX6_taken_X6_isIn
set_option maxRecDepth 20000 in
theorem ggX6_taken_X6_heldOn : GoodIn wsX6_taken wsX6_heldOn := goodIn_r _ [17, 18, 4, 19, 20, 21, 8, 22, 23, 31, 32, 33, 34, 35, 36, 37, 38, 39, 40, 41, 42, 43, 44, 45, 46, 47, 48, 49, 50, 51, 52, 53, 54, 55, 56, 57] (by decide +kernel) (by decide +kernel)
set_option maxRecDepth 20000 in
theorem gX6_taken_X6_heldOn : GoodIn wsX6_taken (wsV RX6 275 RX6 yX6_heldOn wsX6_heldOn) := goodIn_app (goodIn_of _ (by decide +kernel)) ggX6_taken_X6_heldOn
set_option maxRecDepth 20000 in
theorem ggX6_taken_X6_its : GoodIn wsX6_taken wsX6_its := goodIn_r _ [27, 23, 31, 32, 33, 34, 35, 36, 37, 38, 39, 40, 41, 42, 43, 44, 45, 46, 47, 48, 49, 50, 51, 52, 53, 54, 55, 56, 57] (by decide +kernel) (by decide +kernel)
set_option maxRecDepth 20000 in
theorem gX6_taken_X6_its : GoodIn wsX6_taken (wsV RX6 163 RX6 yX6_its wsX6_its) := goodIn_app (goodIn_of _ (by decide +kernel)) ggX6_taken_X6_its
set_option maxRecDepth 20000 in
theorem ggX6_taken_X6_isUnder : GoodIn wsX6_taken wsX6_isUnder := goodIn_r _ [30] (by decide +kernel) (by decide +kernel)
set_option maxRecDepth 20000 in
theorem gX6_taken_X6_isUnder : GoodIn wsX6_taken (va_wsS RX6 278 yX6_isUnder wsX6_isUnder) := goodIn_app (goodIn_of _ (by decide +kernel)) ggX6_taken_X6_isUnder
theorem dX6_taken_0 : decode cX6_taken 0 = .ok (.iload_n 1, 1) := by decide +kernel
theorem dX6_taken_1 : decode cX6_taken 1 = .ok (.invokestatic 270, 3) := by decide +kernel
theorem dX6_taken_4 : decode cX6_taken 4 = .ok (.ifCond .eq 29, 3) := by decide +kernel
theorem dX6_taken_7 : decode cX6_taken 7 = .ok (.iload_n 2, 1) := by decide +kernel
theorem dX6_taken_8 : decode cX6_taken 8 = .ok (.i2l, 1) := by decide +kernel
theorem dX6_taken_9 : decode cX6_taken 9 = .ok (.lconst 0, 1) := by decide +kernel
theorem dX6_taken_10 : decode cX6_taken 10 = .ok (.ldc2_w 273, 3) := by decide +kernel
theorem dX6_taken_13 : decode cX6_taken 13 = .ok (.invokestatic 57, 3) := by decide +kernel
theorem dX6_taken_16 : decode cX6_taken 16 = .ok (.ifCond .eq 17, 3) := by decide +kernel
theorem dX6_taken_19 : decode cX6_taken 19 = .ok (.iload_n 2, 1) := by decide +kernel
theorem dX6_taken_20 : decode cX6_taken 20 = .ok (.i2l, 1) := by decide +kernel
theorem dX6_taken_21 : decode cX6_taken 21 = .ok (.ldc2_w 169, 3) := by decide +kernel
theorem dX6_taken_24 : decode cX6_taken 24 = .ok (.ldc2_w 150, 3) := by decide +kernel
theorem dX6_taken_27 : decode cX6_taken 27 = .ok (.invokestatic 57, 3) := by decide +kernel
theorem dX6_taken_30 : decode cX6_taken 30 = .ok (.ifCond .eq 5, 3) := by decide +kernel
theorem dX6_taken_33 : decode cX6_taken 33 = .ok (.iconst (-1), 1) := by decide +kernel
theorem dX6_taken_34 : decode cX6_taken 34 = .ok (.ireturn, 1) := by decide +kernel
theorem dX6_taken_35 : decode cX6_taken 35 = .ok (.aload_n 0, 1) := by decide +kernel
theorem dX6_taken_36 : decode cX6_taken 36 = .ok (.iload_n 1, 1) := by decide +kernel
theorem dX6_taken_37 : decode cX6_taken 37 = .ok (.invokevirtual 275, 3) := by decide +kernel
theorem dX6_taken_40 : decode cX6_taken 40 = .ok (.istore_n 3, 1) := by decide +kernel
theorem dX6_taken_41 : decode cX6_taken 41 = .ok (.iload_n 3, 1) := by decide +kernel
theorem dX6_taken_42 : decode cX6_taken 42 = .ok (.ifCond .ne 6, 3) := by decide +kernel
theorem dX6_taken_45 : decode cX6_taken 45 = .ok (.bipush (-11), 2) := by decide +kernel
theorem dX6_taken_47 : decode cX6_taken 47 = .ok (.ireturn, 1) := by decide +kernel
theorem dX6_taken_48 : decode cX6_taken 48 = .ok (.iload_n 2, 1) := by decide +kernel
theorem dX6_taken_49 : decode cX6_taken 49 = .ok (.bipush 10, 2) := by decide +kernel
theorem dX6_taken_51 : decode cX6_taken 51 = .ok (.if_icmp .ge 38, 3) := by decide +kernel
theorem dX6_taken_54 : decode cX6_taken 54 = .ok (.iload_n 3, 1) := by decide +kernel
theorem dX6_taken_55 : decode cX6_taken 55 = .ok (.iconst 1, 1) := by decide +kernel
theorem dX6_taken_56 : decode cX6_taken 56 = .ok (.if_icmp .ne 30, 3) := by decide +kernel
theorem dX6_taken_59 : decode cX6_taken 59 = .ok (.aload_n 0, 1) := by decide +kernel
theorem dX6_taken_60 : decode cX6_taken 60 = .ok (.aload_n 0, 1) := by decide +kernel
theorem dX6_taken_61 : decode cX6_taken 61 = .ok (.getfield 43, 3) := by decide +kernel
theorem dX6_taken_64 : decode cX6_taken 64 = .ok (.iload_n 1, 1) := by decide +kernel
theorem dX6_taken_65 : decode cX6_taken 65 = .ok (.iaload, 1) := by decide +kernel
theorem dX6_taken_66 : decode cX6_taken 66 = .ok (.iconst 0, 1) := by decide +kernel
theorem dX6_taken_67 : decode cX6_taken 67 = .ok (.invokevirtual 163, 3) := by decide +kernel
theorem dX6_taken_70 : decode cX6_taken 70 = .ok (.iload_n 2, 1) := by decide +kernel
theorem dX6_taken_71 : decode cX6_taken 71 = .ok (.invokestatic 278, 3) := by decide +kernel
theorem dX6_taken_74 : decode cX6_taken 74 = .ok (.ifCond .eq 12, 3) := by decide +kernel
theorem dX6_taken_77 : decode cX6_taken 77 = .ok (.aload_n 0, 1) := by decide +kernel
theorem dX6_taken_78 : decode cX6_taken 78 = .ok (.getfield 43, 3) := by decide +kernel
theorem dX6_taken_81 : decode cX6_taken 81 = .ok (.iload_n 1, 1) := by decide +kernel
theorem dX6_taken_82 : decode cX6_taken 82 = .ok (.iaload, 1) := by decide +kernel
theorem dX6_taken_83 : decode cX6_taken 83 = .ok (.goto 5, 3) := by decide +kernel
theorem dX6_taken_86 : decode cX6_taken 86 = .ok (.bipush (-13), 2) := by decide +kernel
theorem dX6_taken_88 : decode cX6_taken 88 = .ok (.ireturn, 1) := by decide +kernel
theorem dX6_taken_89 : decode cX6_taken 89 = .ok (.iload_n 3, 1) := by decide +kernel
theorem dX6_taken_90 : decode cX6_taken 90 = .ok (.iconst 2, 1) := by decide +kernel
theorem dX6_taken_91 : decode cX6_taken 91 = .ok (.if_icmp .ne 25, 3) := by decide +kernel
theorem dX6_taken_94 : decode cX6_taken 94 = .ok (.aload_n 0, 1) := by decide +kernel
theorem dX6_taken_95 : decode cX6_taken 95 = .ok (.getfield 43, 3) := by decide +kernel
theorem dX6_taken_98 : decode cX6_taken 98 = .ok (.iload_n 1, 1) := by decide +kernel
theorem dX6_taken_99 : decode cX6_taken 99 = .ok (.iaload, 1) := by decide +kernel
theorem dX6_taken_100 : decode cX6_taken 100 = .ok (.iload_n 2, 1) := by decide +kernel
theorem dX6_taken_101 : decode cX6_taken 101 = .ok (.bipush 10, 2) := by decide +kernel
theorem dX6_taken_103 : decode cX6_taken 103 = .ok (.isub, 1) := by decide +kernel
theorem dX6_taken_104 : decode cX6_taken 104 = .ok (.if_icmp .ne 12, 3) := by decide +kernel
theorem dX6_taken_107 : decode cX6_taken 107 = .ok (.aload_n 0, 1) := by decide +kernel
theorem dX6_taken_108 : decode cX6_taken 108 = .ok (.getfield 46, 3) := by decide +kernel
theorem dX6_taken_111 : decode cX6_taken 111 = .ok (.iload_n 1, 1) := by decide +kernel
theorem dX6_taken_112 : decode cX6_taken 112 = .ok (.iaload, 1) := by decide +kernel
theorem dX6_taken_113 : decode cX6_taken 113 = .ok (.goto 5, 3) := by decide +kernel
theorem dX6_taken_116 : decode cX6_taken 116 = .ok (.bipush (-13), 2) := by decide +kernel
theorem dX6_taken_118 : decode cX6_taken 118 = .ok (.ireturn, 1) := by decide +kernel
theorem dX6_runs_0 : decode cX6_runs 0 = .ok (.aload_n 0, 1) := by decide +kernel
theorem dX6_runs_1 : decode cX6_runs 1 = .ok (.getfield 281, 3) := by decide +kernel
theorem dX6_runs_4 : decode cX6_runs 4 = .ok (.bipush 30, 2) := by decide +kernel
theorem dX6_runs_6 : decode cX6_runs 6 = .ok (.if_icmp .ge 23, 3) := by decide +kernel
theorem dX6_runs_9 : decode cX6_runs 9 = .ok (.aload_n 0, 1) := by decide +kernel
theorem dX6_runs_10 : decode cX6_runs 10 = .ok (.getfield 49, 3) := by decide +kernel
theorem dX6_runs_13 : decode cX6_runs 13 = .ok (.aload_n 0, 1) := by decide +kernel
theorem dX6_runs_14 : decode cX6_runs 14 = .ok (.getfield 281, 3) := by decide +kernel
theorem dX6_runs_17 : decode cX6_runs 17 = .ok (.iload_n 1, 1) := by decide +kernel
theorem dX6_runs_18 : decode cX6_runs 18 = .ok (.iastore, 1) := by decide +kernel
theorem dX6_runs_19 : decode cX6_runs 19 = .ok (.aload_n 0, 1) := by decide +kernel
theorem dX6_runs_20 : decode cX6_runs 20 = .ok (.dup, 1) := by decide +kernel
theorem dX6_runs_21 : decode cX6_runs 21 = .ok (.getfield 281, 3) := by decide +kernel
theorem dX6_runs_24 : decode cX6_runs 24 = .ok (.iconst 1, 1) := by decide +kernel
theorem dX6_runs_25 : decode cX6_runs 25 = .ok (.iadd, 1) := by decide +kernel
theorem dX6_runs_26 : decode cX6_runs 26 = .ok (.putfield 281, 3) := by decide +kernel
theorem dX6_runs_29 : decode cX6_runs 29 = .ok (.return_, 1) := by decide +kernel
set_option maxRecDepth 20000 in
theorem ggX6_ticksPlain_X6_runs : GoodIn wsX6_ticksPlain wsX6_runs := goodIn_r _ [6, 7, 8, 9, 10, 11, 12, 13, 14, 15, 16, 17, 18, 19, 20, 21, 22, 23, 24, 25, 26, 27, 28, 29, 30, 31, 32, 33, 34, 35] (by decide +kernel) (by decide +kernel)
set_option maxRecDepth 20000 in
theorem gX6_ticksPlain_X6_runs : GoodIn wsX6_ticksPlain (wsV RX6 284 RX6 yX6_runs wsX6_runs) := goodIn_app (goodIn_of _ (by decide +kernel)) ggX6_ticksPlain_X6_runs
theorem dX6_ticksPlain_0 : decode cX6_ticksPlain 0 = .ok (.aload_n 0, 1) := by decide +kernel
theorem dX6_ticksPlain_1 : decode cX6_ticksPlain 1 = .ok (.bipush 10, 2) := by decide +kernel
theorem dX6_ticksPlain_3 : decode cX6_ticksPlain 3 = .ok (.invokevirtual 284, 3) := by decide +kernel
theorem dX6_ticksPlain_6 : decode cX6_ticksPlain 6 = .ok (.iload_n 1, 1) := by decide +kernel
theorem dX6_ticksPlain_7 : decode cX6_ticksPlain 7 = .ok (.bipush 6, 2) := by decide +kernel
theorem dX6_ticksPlain_9 : decode cX6_ticksPlain 9 = .ok (.imul, 1) := by decide +kernel
theorem dX6_ticksPlain_10 : decode cX6_ticksPlain 10 = .ok (.aload_n 0, 1) := by decide +kernel
theorem dX6_ticksPlain_11 : decode cX6_ticksPlain 11 = .ok (.getfield 287, 3) := by decide +kernel
theorem dX6_ticksPlain_14 : decode cX6_ticksPlain 14 = .ok (.iadd, 1) := by decide +kernel
theorem dX6_ticksPlain_15 : decode cX6_ticksPlain 15 = .ok (.ireturn, 1) := by decide +kernel
set_option maxRecDepth 20000 in
theorem ggX6_ticksOfSoldier_X6_runs : GoodIn wsX6_ticksOfSoldier wsX6_runs := goodIn_r _ [5, 6, 7, 13, 14, 15, 16, 17, 18, 19, 20, 21, 22, 23, 24, 25, 26, 27, 28, 29, 30, 31, 32, 33, 34, 35, 36, 37, 38, 39] (by decide +kernel) (by decide +kernel)
set_option maxRecDepth 20000 in
theorem gX6_ticksOfSoldier_X6_runs : GoodIn wsX6_ticksOfSoldier (wsV RX6 284 RX6 yX6_runs wsX6_runs) := goodIn_app (goodIn_of _ (by decide +kernel)) ggX6_ticksOfSoldier_X6_runs
set_option maxRecDepth 20000 in
theorem ggX6_ticksOfSoldier_X6_ticksPlain : GoodIn wsX6_ticksOfSoldier wsX6_ticksPlain := goodIn_r _ [11, 12, 1, 2, 3, 4, 5, 6, 7, 13, 14, 15, 16, 17, 18, 19, 20, 21, 22, 23, 24, 25, 26, 27, 28, 29, 30, 31, 32, 33, 34, 35, 36, 37, 38, 39] (by decide +kernel) (by decide +kernel)
set_option maxRecDepth 20000 in
theorem gX6_ticksOfSoldier_X6_ticksPlain : GoodIn wsX6_ticksOfSoldier (wsV RX6 290 RX6 yX6_ticksPlain wsX6_ticksPlain) := goodIn_app (goodIn_of _ (by decide +kernel)) ggX6_ticksOfSoldier_X6_ticksPlain
theorem dX6_ticksOfSoldier_0 : decode cX6_ticksOfSoldier 0 = .ok (.aload_n 0, 1) := by decide +kernel
theorem dX6_ticksOfSoldier_1 : decode cX6_ticksOfSoldier 1 = .ok (.bipush 30, 2) := by decide +kernel
theorem dX6_ticksOfSoldier_3 : decode cX6_ticksOfSoldier 3 = .ok (.invokevirtual 284, 3) := by decide +kernel
theorem dX6_ticksOfSoldier_6 : decode cX6_ticksOfSoldier 6 = .ok (.iconst 0, 1) := by decide +kernel
theorem dX6_ticksOfSoldier_7 : decode cX6_ticksOfSoldier 7 = .ok (.aload_n 0, 1) := by decide +kernel
theorem dX6_ticksOfSoldier_8 : decode cX6_ticksOfSoldier 8 = .ok (.iload_n 1, 1) := by decide +kernel
theorem dX6_ticksOfSoldier_9 : decode cX6_ticksOfSoldier 9 = .ok (.invokevirtual 290, 3) := by decide +kernel
theorem dX6_ticksOfSoldier_12 : decode cX6_ticksOfSoldier 12 = .ok (.isub, 1) := by decide +kernel
theorem dX6_ticksOfSoldier_13 : decode cX6_ticksOfSoldier 13 = .ok (.ireturn, 1) := by decide +kernel
set_option maxRecDepth 20000 in
theorem ggX6_ticks_X6_ticksOfSoldier : GoodIn wsX6_ticks wsX6_ticksOfSoldier := goodIn_r _ [7, 8, 9, 10, 6, 11, 12, 13, 14, 15, 16, 17, 18, 19, 20, 21, 22, 23, 24, 25, 26, 27, 28, 29, 30, 31, 32, 33, 34, 35, 36, 37, 38, 39, 40, 41, 42, 43, 44, 45] (by decide +kernel) (by decide +kernel)
set_option maxRecDepth 20000 in
theorem gX6_ticks_X6_ticksOfSoldier : GoodIn wsX6_ticks (wsV RX6 296 RX6 yX6_ticksOfSoldier wsX6_ticksOfSoldier) := goodIn_app (goodIn_of _ (by decide +kernel)) ggX6_ticks_X6_ticksOfSoldier
set_option maxRecDepth 20000 in
theorem ggX6_ticks_X6_runs : GoodIn wsX6_ticks wsX6_runs := goodIn_r _ [11, 12, 13, 19, 20, 21, 22, 23, 24, 25, 26, 27, 28, 29, 30, 31, 32, 33, 34, 35, 36, 37, 38, 39, 40, 41, 42, 43, 44, 45] (by decide +kernel) (by decide +kernel)
set_option maxRecDepth 20000 in
theorem gX6_ticks_X6_runs : GoodIn wsX6_ticks (wsV RX6 284 RX6 yX6_runs wsX6_runs) := goodIn_app (goodIn_of _ (by decide +kernel)) ggX6_ticks_X6_runs
set_option maxRecDepth 20000 in
theorem ggX6_ticks_X6_ticksPlain : GoodIn wsX6_ticks wsX6_ticksPlain := goodIn_r _ [17, 18, 8, 9, 10, 6, 11, 12, 13, 19, 20, 21, 22, 23, 24, 25, 26, 27, 28, 29, 30, 31, 32, 33, 34, 35, 36, 37, 38, 39, 40, 41, 42, 43, 44, 45] (by decide +kernel) (by decide +kernel)
set_option maxRecDepth 20000 in
theorem gX6_ticks_X6_ticksPlain : GoodIn wsX6_ticks (wsV RX6 290 RX6 yX6_ticksPlain wsX6_ticksPlain) := goodIn_app (goodIn_of _ (by decide +kernel)) ggX6_ticks_X6_ticksPlain
theorem dX6_ticks_0 : decode cX6_ticks 0 = .ok (.aload_n 0, 1) := by decide +kernel
theorem dX6_ticks_1 : decode cX6_ticks 1 = .ok (.getfield 293, 3) := by decide +kernel
theorem dX6_ticks_4 : decode cX6_ticks 4 = .ok (.tableswitch 66 2 4 #[28, 49, 34], 28) := by decide +kernel
theorem dX6_ticks_32 : decode cX6_ticks 32 = .ok (.aload_n 0, 1) := by decide +kernel
theorem dX6_ticks_33 : decode cX6_ticks 33 = .ok (.iload_n 1, 1) := by decide +kernel
theorem dX6_ticks_34 : decode cX6_ticks 34 = .ok (.invokevirtual 296, 3) := by decide +kernel
theorem dX6_ticks_37 : decode cX6_ticks 37 = .ok (.ireturn, 1) := by decide +kernel
theorem dX6_ticks_38 : decode cX6_ticks 38 = .ok (.aload_n 0, 1) := by decide +kernel
theorem dX6_ticks_39 : decode cX6_ticks 39 = .ok (.bipush 40, 2) := by decide +kernel
theorem dX6_ticks_41 : decode cX6_ticks 41 = .ok (.invokevirtual 284, 3) := by decide +kernel
theorem dX6_ticks_44 : decode cX6_ticks 44 = .ok (.aload_n 0, 1) := by decide +kernel
theorem dX6_ticks_45 : decode cX6_ticks 45 = .ok (.iload_n 1, 1) := by decide +kernel
theorem dX6_ticks_46 : decode cX6_ticks 46 = .ok (.invokevirtual 296, 3) := by decide +kernel
theorem dX6_ticks_49 : decode cX6_ticks 49 = .ok (.bipush 9, 2) := by decide +kernel
theorem dX6_ticks_51 : decode cX6_ticks 51 = .ok (.isub, 1) := by decide +kernel
theorem dX6_ticks_52 : decode cX6_ticks 52 = .ok (.ireturn, 1) := by decide +kernel
theorem dX6_ticks_53 : decode cX6_ticks 53 = .ok (.aload_n 0, 1) := by decide +kernel
theorem dX6_ticks_54 : decode cX6_ticks 54 = .ok (.bipush 51, 2) := by decide +kernel
theorem dX6_ticks_56 : decode cX6_ticks 56 = .ok (.invokevirtual 284, 3) := by decide +kernel
theorem dX6_ticks_59 : decode cX6_ticks 59 = .ok (.aload_n 0, 1) := by decide +kernel
theorem dX6_ticks_60 : decode cX6_ticks 60 = .ok (.iload_n 1, 1) := by decide +kernel
theorem dX6_ticks_61 : decode cX6_ticks 61 = .ok (.invokevirtual 290, 3) := by decide +kernel
theorem dX6_ticks_64 : decode cX6_ticks 64 = .ok (.aload_n 0, 1) := by decide +kernel
theorem dX6_ticks_65 : decode cX6_ticks 65 = .ok (.getfield 299, 3) := by decide +kernel
theorem dX6_ticks_68 : decode cX6_ticks 68 = .ok (.iadd, 1) := by decide +kernel
theorem dX6_ticks_69 : decode cX6_ticks 69 = .ok (.ireturn, 1) := by decide +kernel
theorem dX6_ticks_70 : decode cX6_ticks 70 = .ok (.aload_n 0, 1) := by decide +kernel
theorem dX6_ticks_71 : decode cX6_ticks 71 = .ok (.iload_n 1, 1) := by decide +kernel
theorem dX6_ticks_72 : decode cX6_ticks 72 = .ok (.invokevirtual 290, 3) := by decide +kernel
theorem dX6_ticks_75 : decode cX6_ticks 75 = .ok (.ireturn, 1) := by decide +kernel
set_option maxRecDepth 20000 in
theorem ggX6_ringsPlain_X6_runs : GoodIn wsX6_ringsPlain wsX6_runs := goodIn_r _ [6, 7, 8, 23, 24, 25, 26, 27, 28, 29, 30, 31, 32, 33, 34, 35, 36, 37, 38, 39, 40, 41, 42, 43, 44, 45, 46, 47, 48, 49] (by decide +kernel) (by decide +kernel)
set_option maxRecDepth 20000 in
theorem gX6_ringsPlain_X6_runs : GoodIn wsX6_ringsPlain (wsV RX6 284 RX6 yX6_runs wsX6_runs) := goodIn_app (goodIn_of _ (by decide +kernel)) ggX6_ringsPlain_X6_runs
set_option maxRecDepth 20000 in
theorem ggX6_ringsPlain_X6_ticks : GoodIn wsX6_ringsPlain wsX6_ticks := goodIn_r _ [12, 13, 1, 14, 15, 16, 5, 17, 2, 3, 4, 6, 7, 8, 18, 19, 20, 21, 22, 23, 24, 25, 26, 27, 28, 29, 30, 31, 32, 33, 34, 35, 36, 37, 38, 39, 40, 41, 42, 43, 44, 45, 46, 47, 48, 49] (by decide +kernel) (by decide +kernel)
set_option maxRecDepth 20000 in
theorem gX6_ringsPlain_X6_ticks : GoodIn wsX6_ringsPlain (wsV RX6 302 RX6 yX6_ticks wsX6_ticks) := goodIn_app (goodIn_of _ (by decide +kernel)) ggX6_ringsPlain_X6_ticks
theorem dX6_ringsPlain_0 : decode cX6_ringsPlain 0 = .ok (.aload_n 0, 1) := by decide +kernel
theorem dX6_ringsPlain_1 : decode cX6_ringsPlain 1 = .ok (.bipush 11, 2) := by decide +kernel
theorem dX6_ringsPlain_3 : decode cX6_ringsPlain 3 = .ok (.invokevirtual 284, 3) := by decide +kernel
theorem dX6_ringsPlain_6 : decode cX6_ringsPlain 6 = .ok (.aload_n 0, 1) := by decide +kernel
theorem dX6_ringsPlain_7 : decode cX6_ringsPlain 7 = .ok (.iload_n 1, 1) := by decide +kernel
theorem dX6_ringsPlain_8 : decode cX6_ringsPlain 8 = .ok (.invokevirtual 302, 3) := by decide +kernel
theorem dX6_ringsPlain_11 : decode cX6_ringsPlain 11 = .ok (.aload_n 0, 1) := by decide +kernel
theorem dX6_ringsPlain_12 : decode cX6_ringsPlain 12 = .ok (.getfield 299, 3) := by decide +kernel
theorem dX6_ringsPlain_15 : decode cX6_ringsPlain 15 = .ok (.isub, 1) := by decide +kernel
theorem dX6_ringsPlain_16 : decode cX6_ringsPlain 16 = .ok (.ireturn, 1) := by decide +kernel
set_option maxRecDepth 20000 in
theorem ggX6_rings_X6_runs : GoodIn wsX6_rings wsX6_runs := goodIn_r _ [7, 8, 9, 27, 28, 29, 30, 31, 32, 33, 34, 35, 36, 37, 38, 39, 40, 41, 42, 43, 44, 45, 46, 47, 48, 49, 50, 51, 52, 53] (by decide +kernel) (by decide +kernel)
set_option maxRecDepth 20000 in
theorem gX6_rings_X6_runs : GoodIn wsX6_rings (wsV RX6 284 RX6 yX6_runs wsX6_runs) := goodIn_app (goodIn_of _ (by decide +kernel)) ggX6_rings_X6_runs
set_option maxRecDepth 20000 in
theorem ggX6_rings_X6_ringsPlain : GoodIn wsX6_rings wsX6_ringsPlain := goodIn_r _ [13, 2, 3, 4, 5, 6, 7, 8, 9, 14, 15, 16, 17, 1, 18, 19, 20, 21, 22, 23, 24, 25, 26, 27, 28, 29, 30, 31, 32, 33, 34, 35, 36, 37, 38, 39, 40, 41, 42, 43, 44, 45, 46, 47, 48, 49, 50, 51, 52, 53] (by decide +kernel) (by decide +kernel)
set_option maxRecDepth 20000 in
theorem gX6_rings_X6_ringsPlain : GoodIn wsX6_rings (wsV RX6 305 RX6 yX6_ringsPlain wsX6_ringsPlain) := goodIn_app (goodIn_of _ (by decide +kernel)) ggX6_rings_X6_ringsPlain
set_option maxRecDepth 20000 in
theorem ggX6_rings_X6_ticks : GoodIn wsX6_rings wsX6_ticks := goodIn_r _ [17, 1, 2, 18, 19, 20, 6, 21, 3, 4, 5, 7, 8, 9, 22, 23, 24, 25, 26, 27, 28, 29, 30, 31, 32, 33, 34, 35, 36, 37, 38, 39, 40, 41, 42, 43, 44, 45, 46, 47, 48, 49, 50, 51, 52, 53] (by decide +kernel) (by decide +kernel)
set_option maxRecDepth 20000 in
theorem gX6_rings_X6_ticks : GoodIn wsX6_rings (wsV RX6 302 RX6 yX6_ticks wsX6_ticks) := goodIn_app (goodIn_of _ (by decide +kernel)) ggX6_rings_X6_ticks
theorem dX6_rings_0 : decode cX6_rings 0 = .ok (.aload_n 0, 1) := by decide +kernel
theorem dX6_rings_1 : decode cX6_rings 1 = .ok (.getfield 293, 3) := by decide +kernel
theorem dX6_rings_4 : decode cX6_rings 4 = .ok (.iconst 1, 1) := by decide +kernel
theorem dX6_rings_5 : decode cX6_rings 5 = .ok (.if_icmp .eq 11, 3) := by decide +kernel
theorem dX6_rings_8 : decode cX6_rings 8 = .ok (.aload_n 0, 1) := by decide +kernel
theorem dX6_rings_9 : decode cX6_rings 9 = .ok (.getfield 293, 3) := by decide +kernel
theorem dX6_rings_12 : decode cX6_rings 12 = .ok (.iconst 3, 1) := by decide +kernel
theorem dX6_rings_13 : decode cX6_rings 13 = .ok (.if_icmp .ne 17, 3) := by decide +kernel
theorem dX6_rings_16 : decode cX6_rings 16 = .ok (.aload_n 0, 1) := by decide +kernel
theorem dX6_rings_17 : decode cX6_rings 17 = .ok (.bipush 20, 2) := by decide +kernel
theorem dX6_rings_19 : decode cX6_rings 19 = .ok (.invokevirtual 284, 3) := by decide +kernel
theorem dX6_rings_22 : decode cX6_rings 22 = .ok (.aload_n 0, 1) := by decide +kernel
theorem dX6_rings_23 : decode cX6_rings 23 = .ok (.iload_n 1, 1) := by decide +kernel
theorem dX6_rings_24 : decode cX6_rings 24 = .ok (.invokevirtual 305, 3) := by decide +kernel
theorem dX6_rings_27 : decode cX6_rings 27 = .ok (.iconst 2, 1) := by decide +kernel
theorem dX6_rings_28 : decode cX6_rings 28 = .ok (.imul, 1) := by decide +kernel
theorem dX6_rings_29 : decode cX6_rings 29 = .ok (.ireturn, 1) := by decide +kernel
theorem dX6_rings_30 : decode cX6_rings 30 = .ok (.aload_n 0, 1) := by decide +kernel
theorem dX6_rings_31 : decode cX6_rings 31 = .ok (.getfield 293, 3) := by decide +kernel
theorem dX6_rings_34 : decode cX6_rings 34 = .ok (.iconst 4, 1) := by decide +kernel
theorem dX6_rings_35 : decode cX6_rings 35 = .ok (.if_icmp .ne 26, 3) := by decide +kernel
theorem dX6_rings_38 : decode cX6_rings 38 = .ok (.aload_n 0, 1) := by decide +kernel
theorem dX6_rings_39 : decode cX6_rings 39 = .ok (.bipush 41, 2) := by decide +kernel
theorem dX6_rings_41 : decode cX6_rings 41 = .ok (.invokevirtual 284, 3) := by decide +kernel
theorem dX6_rings_44 : decode cX6_rings 44 = .ok (.aload_n 0, 1) := by decide +kernel
theorem dX6_rings_45 : decode cX6_rings 45 = .ok (.iload_n 1, 1) := by decide +kernel
theorem dX6_rings_46 : decode cX6_rings 46 = .ok (.invokevirtual 305, 3) := by decide +kernel
theorem dX6_rings_49 : decode cX6_rings 49 = .ok (.istore_n 2, 1) := by decide +kernel
theorem dX6_rings_50 : decode cX6_rings 50 = .ok (.iload_n 2, 1) := by decide +kernel
theorem dX6_rings_51 : decode cX6_rings 51 = .ok (.aload_n 0, 1) := by decide +kernel
theorem dX6_rings_52 : decode cX6_rings 52 = .ok (.aload_n 0, 1) := by decide +kernel
theorem dX6_rings_53 : decode cX6_rings 53 = .ok (.getfield 299, 3) := by decide +kernel
theorem dX6_rings_56 : decode cX6_rings 56 = .ok (.invokevirtual 302, 3) := by decide +kernel
theorem dX6_rings_59 : decode cX6_rings 59 = .ok (.ixor, 1) := by decide +kernel
theorem dX6_rings_60 : decode cX6_rings 60 = .ok (.ireturn, 1) := by decide +kernel
theorem dX6_rings_61 : decode cX6_rings 61 = .ok (.aload_n 0, 1) := by decide +kernel
theorem dX6_rings_62 : decode cX6_rings 62 = .ok (.iload_n 1, 1) := by decide +kernel
theorem dX6_rings_63 : decode cX6_rings 63 = .ok (.invokevirtual 305, 3) := by decide +kernel
theorem dX6_rings_66 : decode cX6_rings 66 = .ok (.ireturn, 1) := by decide +kernel
set_option maxRecDepth 20000 in
theorem ggX6_partsPlain_X6_runs : GoodIn wsX6_partsPlain wsX6_runs := goodIn_r _ [8, 9, 10, 11, 12, 13, 14, 15, 16, 17, 18, 19, 20, 21, 22, 23, 24, 25, 26, 27, 28, 29, 30, 31, 32, 33, 34, 35, 36, 37] (by decide +kernel) (by decide +kernel)
set_option maxRecDepth 20000 in
theorem gX6_partsPlain_X6_runs : GoodIn wsX6_partsPlain (wsV RX6 284 RX6 yX6_runs wsX6_runs) := goodIn_app (goodIn_of _ (by decide +kernel)) ggX6_partsPlain_X6_runs
theorem dX6_partsPlain_0 : decode cX6_partsPlain 0 = .ok (.aload_n 0, 1) := by decide +kernel
theorem dX6_partsPlain_1 : decode cX6_partsPlain 1 = .ok (.bipush 12, 2) := by decide +kernel
theorem dX6_partsPlain_3 : decode cX6_partsPlain 3 = .ok (.invokevirtual 284, 3) := by decide +kernel
theorem dX6_partsPlain_6 : decode cX6_partsPlain 6 = .ok (.aload_n 0, 1) := by decide +kernel
theorem dX6_partsPlain_7 : decode cX6_partsPlain 7 = .ok (.aload_n 0, 1) := by decide +kernel
theorem dX6_partsPlain_8 : decode cX6_partsPlain 8 = .ok (.getfield 308, 3) := by decide +kernel
theorem dX6_partsPlain_11 : decode cX6_partsPlain 11 = .ok (.ifCond .ne 14, 3) := by decide +kernel
theorem dX6_partsPlain_14 : decode cX6_partsPlain 14 = .ok (.aload_n 0, 1) := by decide +kernel
theorem dX6_partsPlain_15 : decode cX6_partsPlain 15 = .ok (.getfield 287, 3) := by decide +kernel
theorem dX6_partsPlain_18 : decode cX6_partsPlain 18 = .ok (.aload_n 0, 1) := by decide +kernel
theorem dX6_partsPlain_19 : decode cX6_partsPlain 19 = .ok (.getfield 299, 3) := by decide +kernel
theorem dX6_partsPlain_22 : decode cX6_partsPlain 22 = .ok (.if_icmp .ne 7, 3) := by decide +kernel
theorem dX6_partsPlain_25 : decode cX6_partsPlain 25 = .ok (.iconst 1, 1) := by decide +kernel
theorem dX6_partsPlain_26 : decode cX6_partsPlain 26 = .ok (.goto 4, 3) := by decide +kernel
theorem dX6_partsPlain_29 : decode cX6_partsPlain 29 = .ok (.iconst 0, 1) := by decide +kernel
theorem dX6_partsPlain_30 : decode cX6_partsPlain 30 = .ok (.putfield 308, 3) := by decide +kernel
theorem dX6_partsPlain_33 : decode cX6_partsPlain 33 = .ok (.aload_n 0, 1) := by decide +kernel
theorem dX6_partsPlain_34 : decode cX6_partsPlain 34 = .ok (.getfield 308, 3) := by decide +kernel
theorem dX6_partsPlain_37 : decode cX6_partsPlain 37 = .ok (.ifCond .eq 7, 3) := by decide +kernel
theorem dX6_partsPlain_40 : decode cX6_partsPlain 40 = .ok (.iconst 0, 1) := by decide +kernel
theorem dX6_partsPlain_41 : decode cX6_partsPlain 41 = .ok (.goto 14, 3) := by decide +kernel
theorem dX6_partsPlain_44 : decode cX6_partsPlain 44 = .ok (.iload_n 1, 1) := by decide +kernel
theorem dX6_partsPlain_45 : decode cX6_partsPlain 45 = .ok (.aload_n 0, 1) := by decide +kernel
theorem dX6_partsPlain_46 : decode cX6_partsPlain 46 = .ok (.getfield 299, 3) := by decide +kernel
theorem dX6_partsPlain_49 : decode cX6_partsPlain 49 = .ok (.aload_n 0, 1) := by decide +kernel
theorem dX6_partsPlain_50 : decode cX6_partsPlain 50 = .ok (.getfield 287, 3) := by decide +kernel
theorem dX6_partsPlain_53 : decode cX6_partsPlain 53 = .ok (.isub, 1) := by decide +kernel
theorem dX6_partsPlain_54 : decode cX6_partsPlain 54 = .ok (.idiv, 1) := by decide +kernel
theorem dX6_partsPlain_55 : decode cX6_partsPlain 55 = .ok (.ireturn, 1) := by decide +kernel
set_option maxRecDepth 20000 in
theorem ggX6_parts_X6_runs : GoodIn wsX6_parts wsX6_runs := goodIn_r _ [8, 9, 10, 28, 29, 30, 31, 32, 33, 34, 35, 36, 37, 38, 39, 40, 41, 42, 43, 44, 45, 46, 47, 48, 49, 50, 51, 52, 53, 54] (by decide +kernel) (by decide +kernel)
set_option maxRecDepth 20000 in
theorem gX6_parts_X6_runs : GoodIn wsX6_parts (wsV RX6 284 RX6 yX6_runs wsX6_runs) := goodIn_app (goodIn_of _ (by decide +kernel)) ggX6_parts_X6_runs
set_option maxRecDepth 20000 in
theorem ggX6_parts_X6_partsPlain : GoodIn wsX6_parts wsX6_partsPlain := goodIn_r _ [14, 3, 2, 15, 4, 5, 6, 7, 8, 9, 10, 28, 29, 30, 31, 32, 33, 34, 35, 36, 37, 38, 39, 40, 41, 42, 43, 44, 45, 46, 47, 48, 49, 50, 51, 52, 53, 54] (by decide +kernel) (by decide +kernel)
set_option maxRecDepth 20000 in
theorem gX6_parts_X6_partsPlain : GoodIn wsX6_parts (wsV RX6 311 RX6 yX6_partsPlain wsX6_partsPlain) := goodIn_app (goodIn_of _ (by decide +kernel)) ggX6_parts_X6_partsPlain
set_option maxRecDepth 20000 in
theorem ggX6_parts_X6_ticks : GoodIn wsX6_parts wsX6_ticks := goodIn_r _ [19, 1, 15, 20, 21, 22, 7, 23, 4, 5, 6, 8, 9, 10, 24, 25, 26, 27, 2, 28, 29, 30, 31, 32, 33, 34, 35, 36, 37, 38, 39, 40, 41, 42, 43, 44, 45, 46, 47, 48, 49, 50, 51, 52, 53, 54] (by decide +kernel) (by decide +kernel)
set_option maxRecDepth 20000 in
theorem gX6_parts_X6_ticks : GoodIn wsX6_parts (wsV RX6 302 RX6 yX6_ticks wsX6_ticks) := goodIn_app (goodIn_of _ (by decide +kernel)) ggX6_parts_X6_ticks
theorem dX6_parts_0 : decode cX6_parts 0 = .ok (.aload_n 0, 1) := by decide +kernel
theorem dX6_parts_1 : decode cX6_parts 1 = .ok (.getfield 293, 3) := by decide +kernel
theorem dX6_parts_4 : decode cX6_parts 4 = .ok (.iconst 3, 1) := by decide +kernel
theorem dX6_parts_5 : decode cX6_parts 5 = .ok (.if_icmp .ne 22, 3) := by decide +kernel
theorem dX6_parts_8 : decode cX6_parts 8 = .ok (.aload_n 0, 1) := by decide +kernel
theorem dX6_parts_9 : decode cX6_parts 9 = .ok (.bipush 50, 2) := by decide +kernel
theorem dX6_parts_11 : decode cX6_parts 11 = .ok (.invokevirtual 284, 3) := by decide +kernel
theorem dX6_parts_14 : decode cX6_parts 14 = .ok (.aload_n 0, 1) := by decide +kernel
theorem dX6_parts_15 : decode cX6_parts 15 = .ok (.iload_n 1, 1) := by decide +kernel
theorem dX6_parts_16 : decode cX6_parts 16 = .ok (.iconst 5, 1) := by decide +kernel
theorem dX6_parts_17 : decode cX6_parts 17 = .ok (.imul, 1) := by decide +kernel
theorem dX6_parts_18 : decode cX6_parts 18 = .ok (.invokevirtual 311, 3) := by decide +kernel
theorem dX6_parts_21 : decode cX6_parts 21 = .ok (.aload_n 0, 1) := by decide +kernel
theorem dX6_parts_22 : decode cX6_parts 22 = .ok (.getfield 287, 3) := by decide +kernel
theorem dX6_parts_25 : decode cX6_parts 25 = .ok (.iadd, 1) := by decide +kernel
theorem dX6_parts_26 : decode cX6_parts 26 = .ok (.ireturn, 1) := by decide +kernel
theorem dX6_parts_27 : decode cX6_parts 27 = .ok (.aload_n 0, 1) := by decide +kernel
theorem dX6_parts_28 : decode cX6_parts 28 = .ok (.getfield 293, 3) := by decide +kernel
theorem dX6_parts_31 : decode cX6_parts 31 = .ok (.iconst 5, 1) := by decide +kernel
theorem dX6_parts_32 : decode cX6_parts 32 = .ok (.if_icmp .ne 37, 3) := by decide +kernel
theorem dX6_parts_35 : decode cX6_parts 35 = .ok (.aload_n 0, 1) := by decide +kernel
theorem dX6_parts_36 : decode cX6_parts 36 = .ok (.bipush 61, 2) := by decide +kernel
theorem dX6_parts_38 : decode cX6_parts 38 = .ok (.invokevirtual 284, 3) := by decide +kernel
theorem dX6_parts_41 : decode cX6_parts 41 = .ok (.aload_n 0, 1) := by decide +kernel
theorem dX6_parts_42 : decode cX6_parts 42 = .ok (.iload_n 1, 1) := by decide +kernel
theorem dX6_parts_43 : decode cX6_parts 43 = .ok (.invokevirtual 311, 3) := by decide +kernel
theorem dX6_parts_46 : decode cX6_parts 46 = .ok (.istore_n 2, 1) := by decide +kernel
theorem dX6_parts_47 : decode cX6_parts 47 = .ok (.aload_n 0, 1) := by decide +kernel
theorem dX6_parts_48 : decode cX6_parts 48 = .ok (.getfield 308, 3) := by decide +kernel
theorem dX6_parts_51 : decode cX6_parts 51 = .ok (.ifCond .eq 7, 3) := by decide +kernel
theorem dX6_parts_54 : decode cX6_parts 54 = .ok (.iconst 0, 1) := by decide +kernel
theorem dX6_parts_55 : decode cX6_parts 55 = .ok (.goto 13, 3) := by decide +kernel
theorem dX6_parts_58 : decode cX6_parts 58 = .ok (.iload_n 2, 1) := by decide +kernel
theorem dX6_parts_59 : decode cX6_parts 59 = .ok (.aload_n 0, 1) := by decide +kernel
theorem dX6_parts_60 : decode cX6_parts 60 = .ok (.aload_n 0, 1) := by decide +kernel
theorem dX6_parts_61 : decode cX6_parts 61 = .ok (.getfield 287, 3) := by decide +kernel
theorem dX6_parts_64 : decode cX6_parts 64 = .ok (.invokevirtual 302, 3) := by decide +kernel
theorem dX6_parts_67 : decode cX6_parts 67 = .ok (.imul, 1) := by decide +kernel
theorem dX6_parts_68 : decode cX6_parts 68 = .ok (.ireturn, 1) := by decide +kernel
theorem dX6_parts_69 : decode cX6_parts 69 = .ok (.aload_n 0, 1) := by decide +kernel
theorem dX6_parts_70 : decode cX6_parts 70 = .ok (.iload_n 1, 1) := by decide +kernel
theorem dX6_parts_71 : decode cX6_parts 71 = .ok (.invokevirtual 311, 3) := by decide +kernel
theorem dX6_parts_74 : decode cX6_parts 74 = .ok (.ireturn, 1) := by decide +kernel
set_option maxRecDepth 20000 in
theorem ggX6_waitsPlain_X6_runs : GoodIn wsX6_waitsPlain wsX6_runs := goodIn_r _ [5, 6, 7, 31, 32, 33, 34, 35, 36, 37, 38, 39, 40, 41, 42, 43, 44, 45, 46, 47, 48, 49, 50, 51, 52, 53, 54, 55, 56, 57] (by decide +kernel) (by decide +kernel)
set_option maxRecDepth 20000 in
theorem gX6_waitsPlain_X6_runs : GoodIn wsX6_waitsPlain (wsV RX6 284 RX6 yX6_runs wsX6_runs) := goodIn_app (goodIn_of _ (by decide +kernel)) ggX6_waitsPlain_X6_runs
set_option maxRecDepth 20000 in
theorem ggX6_waitsPlain_X6_rings : GoodIn wsX6_waitsPlain wsX6_rings := goodIn_r _ [11, 12, 13, 1, 2, 3, 4, 5, 6, 7, 14, 15, 16, 17, 18, 19, 20, 21, 22, 23, 24, 25, 26, 27, 28, 29, 30, 31, 32, 33, 34, 35, 36, 37, 38, 39, 40, 41, 42, 43, 44, 45, 46, 47, 48, 49, 50, 51, 52, 53, 54, 55, 56, 57] (by decide +kernel) (by decide +kernel)
set_option maxRecDepth 20000 in
theorem gX6_waitsPlain_X6_rings : GoodIn wsX6_waitsPlain (wsV RX6 314 RX6 yX6_rings wsX6_rings) := goodIn_app (goodIn_of _ (by decide +kernel)) ggX6_waitsPlain_X6_rings
theorem dX6_waitsPlain_0 : decode cX6_waitsPlain 0 = .ok (.aload_n 0, 1) := by decide +kernel
theorem dX6_waitsPlain_1 : decode cX6_waitsPlain 1 = .ok (.bipush 13, 2) := by decide +kernel
theorem dX6_waitsPlain_3 : decode cX6_waitsPlain 3 = .ok (.invokevirtual 284, 3) := by decide +kernel
theorem dX6_waitsPlain_6 : decode cX6_waitsPlain 6 = .ok (.aload_n 0, 1) := by decide +kernel
theorem dX6_waitsPlain_7 : decode cX6_waitsPlain 7 = .ok (.iload_n 1, 1) := by decide +kernel
theorem dX6_waitsPlain_8 : decode cX6_waitsPlain 8 = .ok (.invokevirtual 314, 3) := by decide +kernel
theorem dX6_waitsPlain_11 : decode cX6_waitsPlain 11 = .ok (.bipush 100, 2) := by decide +kernel
theorem dX6_waitsPlain_13 : decode cX6_waitsPlain 13 = .ok (.ixor, 1) := by decide +kernel
theorem dX6_waitsPlain_14 : decode cX6_waitsPlain 14 = .ok (.ireturn, 1) := by decide +kernel
set_option maxRecDepth 20000 in
theorem ggX6_waits_X6_runs : GoodIn wsX6_waits wsX6_runs := goodIn_r _ [7, 8, 9, 44, 45, 46, 47, 48, 49, 50, 51, 52, 53, 54, 55, 56, 57, 58, 59, 60, 61, 62, 63, 64, 65, 66, 67, 68, 69, 70] (by decide +kernel) (by decide +kernel)
set_option maxRecDepth 20000 in
theorem gX6_waits_X6_runs : GoodIn wsX6_waits (wsV RX6 284 RX6 yX6_runs wsX6_runs) := goodIn_app (goodIn_of _ (by decide +kernel)) ggX6_waits_X6_runs
set_option maxRecDepth 20000 in
theorem ggX6_waits_X6_waitsPlain : GoodIn wsX6_waits wsX6_waitsPlain := goodIn_r _ [13, 3, 4, 5, 6, 7, 8, 9, 14, 15, 16, 17, 1, 18, 19, 20, 21, 22, 23, 24, 25, 26, 27, 28, 29, 30, 31, 32, 33, 34, 2, 44, 45, 46, 47, 48, 49, 50, 51, 52, 53, 54, 55, 56, 57, 58, 59, 60, 61, 62, 63, 64, 65, 66, 67, 68, 69, 70] (by decide +kernel) (by decide +kernel)
set_option maxRecDepth 20000 in
theorem gX6_waits_X6_waitsPlain : GoodIn wsX6_waits (wsV RX6 317 RX6 yX6_waitsPlain wsX6_waitsPlain) := goodIn_app (goodIn_of _ (by decide +kernel)) ggX6_waits_X6_waitsPlain
set_option maxRecDepth 20000 in
theorem ggX6_waits_X6_parts : GoodIn wsX6_waits wsX6_parts := goodIn_r _ [38, 1, 2, 39, 3, 4, 5, 6, 7, 8, 9, 40, 41, 42, 43, 18, 23, 24, 25, 26, 27, 28, 29, 30, 31, 32, 33, 34, 44, 45, 46, 47, 48, 49, 50, 51, 52, 53, 54, 55, 56, 57, 58, 59, 60, 61, 62, 63, 64, 65, 66, 67, 68, 69, 70] (by decide +kernel) (by decide +kernel)
set_option maxRecDepth 20000 in
theorem gX6_waits_X6_parts : GoodIn wsX6_waits (wsV RX6 320 RX6 yX6_parts wsX6_parts) := goodIn_app (goodIn_of _ (by decide +kernel)) ggX6_waits_X6_parts
theorem dX6_waits_0 : decode cX6_waits 0 = .ok (.aload_n 0, 1) := by decide +kernel
theorem dX6_waits_1 : decode cX6_waits 1 = .ok (.getfield 293, 3) := by decide +kernel
theorem dX6_waits_4 : decode cX6_waits 4 = .ok (.iconst 2, 1) := by decide +kernel
theorem dX6_waits_5 : decode cX6_waits 5 = .ok (.if_icmp .eq 11, 3) := by decide +kernel
theorem dX6_waits_8 : decode cX6_waits 8 = .ok (.aload_n 0, 1) := by decide +kernel
theorem dX6_waits_9 : decode cX6_waits 9 = .ok (.getfield 293, 3) := by decide +kernel
theorem dX6_waits_12 : decode cX6_waits 12 = .ok (.iconst 4, 1) := by decide +kernel
theorem dX6_waits_13 : decode cX6_waits 13 = .ok (.if_icmp .ne 26, 3) := by decide +kernel
theorem dX6_waits_16 : decode cX6_waits 16 = .ok (.aload_n 0, 1) := by decide +kernel
theorem dX6_waits_17 : decode cX6_waits 17 = .ok (.bipush 31, 2) := by decide +kernel
theorem dX6_waits_19 : decode cX6_waits 19 = .ok (.invokevirtual 284, 3) := by decide +kernel
theorem dX6_waits_22 : decode cX6_waits 22 = .ok (.aload_n 0, 1) := by decide +kernel
theorem dX6_waits_23 : decode cX6_waits 23 = .ok (.iload_n 1, 1) := by decide +kernel
theorem dX6_waits_24 : decode cX6_waits 24 = .ok (.invokevirtual 317, 3) := by decide +kernel
theorem dX6_waits_27 : decode cX6_waits 27 = .ok (.istore_n 2, 1) := by decide +kernel
theorem dX6_waits_28 : decode cX6_waits 28 = .ok (.iload_n 2, 1) := by decide +kernel
theorem dX6_waits_29 : decode cX6_waits 29 = .ok (.aload_n 0, 1) := by decide +kernel
theorem dX6_waits_30 : decode cX6_waits 30 = .ok (.aload_n 0, 1) := by decide +kernel
theorem dX6_waits_31 : decode cX6_waits 31 = .ok (.getfield 287, 3) := by decide +kernel
theorem dX6_waits_34 : decode cX6_waits 34 = .ok (.invokevirtual 320, 3) := by decide +kernel
theorem dX6_waits_37 : decode cX6_waits 37 = .ok (.iadd, 1) := by decide +kernel
theorem dX6_waits_38 : decode cX6_waits 38 = .ok (.ireturn, 1) := by decide +kernel
theorem dX6_waits_39 : decode cX6_waits 39 = .ok (.aload_n 0, 1) := by decide +kernel
theorem dX6_waits_40 : decode cX6_waits 40 = .ok (.getfield 293, 3) := by decide +kernel
theorem dX6_waits_43 : decode cX6_waits 43 = .ok (.iconst 5, 1) := by decide +kernel
theorem dX6_waits_44 : decode cX6_waits 44 = .ok (.if_icmp .ne 17, 3) := by decide +kernel
theorem dX6_waits_47 : decode cX6_waits 47 = .ok (.aload_n 0, 1) := by decide +kernel
theorem dX6_waits_48 : decode cX6_waits 48 = .ok (.bipush 60, 2) := by decide +kernel
theorem dX6_waits_50 : decode cX6_waits 50 = .ok (.invokevirtual 284, 3) := by decide +kernel
theorem dX6_waits_53 : decode cX6_waits 53 = .ok (.aload_n 0, 1) := by decide +kernel
theorem dX6_waits_54 : decode cX6_waits 54 = .ok (.iload_n 1, 1) := by decide +kernel
theorem dX6_waits_55 : decode cX6_waits 55 = .ok (.invokevirtual 317, 3) := by decide +kernel
theorem dX6_waits_58 : decode cX6_waits 58 = .ok (.iconst 1, 1) := by decide +kernel
theorem dX6_waits_59 : decode cX6_waits 59 = .ok (.isub, 1) := by decide +kernel
theorem dX6_waits_60 : decode cX6_waits 60 = .ok (.ireturn, 1) := by decide +kernel
theorem dX6_waits_61 : decode cX6_waits 61 = .ok (.aload_n 0, 1) := by decide +kernel
theorem dX6_waits_62 : decode cX6_waits 62 = .ok (.iload_n 1, 1) := by decide +kernel
theorem dX6_waits_63 : decode cX6_waits 63 = .ok (.invokevirtual 317, 3) := by decide +kernel
theorem dX6_waits_66 : decode cX6_waits 66 = .ok (.ireturn, 1) := by decide +kernel
set_option maxRecDepth 20000 in
theorem ggX6_act_X6_isShelf : GoodIn wsX6_act wsX6_isShelf := goodIn_r _ [11, 2, 12, 13, 10, 14] (by decide +kernel) (by decide +kernel)
set_option maxRecDepth 20000 in
theorem gX6_act_X6_isShelf : GoodIn wsX6_act (va_wsS RX6 270 yX6_isShelf wsX6_isShelf) := goodIn_app (goodIn_of _ (by decide +kernel)) ggX6_act_X6_isShelf
set_option maxRecDepth 20000 in
theorem ggX6_act_X6_isIn : GoodIn wsX6_act wsX6_isIn := goodIn_r _ [14] (by decide +kernel) (by decide +kernel)
set_option maxRecDepth 20000 in
theorem gX6_act_X6_isIn : GoodIn wsX6_act (va_wsS RX6 57 yX6_isIn wsX6_isIn) := goodIn_app (goodIn_of _ (by decide +kernel)) ggX6_act_X6_isIn
set_option maxRecDepth 20000 in
theorem ggX6_act_X6_heldOn : GoodIn wsX6_act wsX6_heldOn := goodIn_r _ [18, 19, 4, 20, 21, 22, 10, 23, 24, 70, 71, 72, 73, 74, 75, 76, 77, 78, 79, 80, 81, 82, 83, 84, 85, 86, 87, 88, 89, 90, 91, 92, 93, 94, 95, 96] (by decide +kernel) (by decide +kernel)
set_option maxRecDepth 20000 in
theorem gX6_act_X6_heldOn : GoodIn wsX6_act (wsV RX6 275 RX6 yX6_heldOn wsX6_heldOn) := goodIn_app (goodIn_of _ (by decide +kernel)) ggX6_act_X6_heldOn
set_option maxRecDepth 20000 in
theorem ggX6_act_X6_its : GoodIn wsX6_act wsX6_its := goodIn_r _ [28, 24, 70, 71, 72, 73, 74, 75, 76, 77, 78, 79, 80, 81, 82, 83, 84, 85, 86, 87, 88, 89, 90, 91, 92, 93, 94, 95, 96] (by decide +kernel) (by decide +kernel)
set_option maxRecDepth 20000 in
theorem gX6_act_X6_its : GoodIn wsX6_act (wsV RX6 163 RX6 yX6_its wsX6_its) := goodIn_app (goodIn_of _ (by decide +kernel)) ggX6_act_X6_its
set_option maxRecDepth 20000 in
theorem ggX6_act_X6_ticks : GoodIn wsX6_act wsX6_ticks := goodIn_r _ [32, 5, 7, 33, 34, 35, 10, 36, 37, 38, 39, 40, 1, 41, 42, 43, 44, 45, 6, 70, 71, 72, 73, 74, 75, 76, 77, 78, 79, 80, 81, 82, 83, 84, 85, 86, 87, 88, 89, 90, 91, 92, 93, 94, 95, 96] (by decide +kernel) (by decide +kernel)
set_option maxRecDepth 20000 in
theorem gX6_act_X6_ticks : GoodIn wsX6_act (wsV RX6 302 RX6 yX6_ticks wsX6_ticks) := goodIn_app (goodIn_of _ (by decide +kernel)) ggX6_act_X6_ticks
set_option maxRecDepth 20000 in
theorem ggX6_act_X6_rings : GoodIn wsX6_act wsX6_rings := goodIn_r _ [49, 5, 7, 37, 38, 39, 10, 40, 1, 41, 50, 51, 52, 53, 29, 30, 31, 32, 33, 34, 35, 36, 42, 43, 44, 45, 6, 70, 71, 72, 73, 74, 75, 76, 77, 78, 79, 80, 81, 82, 83, 84, 85, 86, 87, 88, 89, 90, 91, 92, 93, 94, 95, 96] (by decide +kernel) (by decide +kernel)
set_option maxRecDepth 20000 in
theorem gX6_act_X6_rings : GoodIn wsX6_act (wsV RX6 314 RX6 yX6_rings wsX6_rings) := goodIn_app (goodIn_of _ (by decide +kernel)) ggX6_act_X6_rings
set_option maxRecDepth 20000 in
theorem ggX6_act_X6_parts : GoodIn wsX6_act wsX6_parts := goodIn_r _ [57, 5, 6, 3, 37, 38, 39, 10, 40, 1, 41, 58, 59, 60, 61, 7, 29, 30, 31, 32, 33, 34, 35, 36, 42, 43, 44, 45, 70, 71, 72, 73, 74, 75, 76, 77, 78, 79, 80, 81, 82, 83, 84, 85, 86, 87, 88, 89, 90, 91, 92, 93, 94, 95, 96] (by decide +kernel) (by decide +kernel)
set_option maxRecDepth 20000 in
theorem gX6_act_X6_parts : GoodIn wsX6_act (wsV RX6 320 RX6 yX6_parts wsX6_parts) := goodIn_app (goodIn_of _ (by decide +kernel)) ggX6_act_X6_parts
set_option maxRecDepth 20000 in
theorem ggX6_act_X6_waits : GoodIn wsX6_act wsX6_waits := goodIn_r _ [65, 5, 6, 37, 38, 39, 10, 40, 1, 41, 66, 67, 68, 69, 46, 47, 48, 49, 7, 50, 51, 52, 53, 29, 30, 31, 32, 33, 34, 35, 36, 42, 43, 44, 45, 54, 55, 56, 57, 3, 58, 59, 60, 61, 70, 71, 72, 73, 74, 75, 76, 77, 78, 79, 80, 81, 82, 83, 84, 85, 86, 87, 88, 89, 90, 91, 92, 93, 94, 95, 96] (by decide +kernel) (by decide +kernel)
set_option maxRecDepth 20000 in
theorem gX6_act_X6_waits : GoodIn wsX6_act (wsV RX6 323 RX6 yX6_waits wsX6_waits) := goodIn_app (goodIn_of _ (by decide +kernel)) ggX6_act_X6_waits
theorem dX6_act_0 : decode cX6_act 0 = .ok (.aload_n 0, 1) := by decide +kernel
theorem dX6_act_1 : decode cX6_act 1 = .ok (.iconst 0, 1) := by decide +kernel
theorem dX6_act_2 : decode cX6_act 2 = .ok (.putfield 281, 3) := by decide +kernel
theorem dX6_act_5 : decode cX6_act 5 = .ok (.iload_n 1, 1) := by decide +kernel
theorem dX6_act_6 : decode cX6_act 6 = .ok (.invokestatic 270, 3) := by decide +kernel
theorem dX6_act_9 : decode cX6_act 9 = .ok (.ifCond .eq 24, 3) := by decide +kernel
theorem dX6_act_12 : decode cX6_act 12 = .ok (.iload_n 2, 1) := by decide +kernel
theorem dX6_act_13 : decode cX6_act 13 = .ok (.i2l, 1) := by decide +kernel
theorem dX6_act_14 : decode cX6_act 14 = .ok (.lconst 0, 1) := by decide +kernel
theorem dX6_act_15 : decode cX6_act 15 = .ok (.ldc2_w 148, 3) := by decide +kernel
theorem dX6_act_18 : decode cX6_act 18 = .ok (.invokestatic 57, 3) := by decide +kernel
theorem dX6_act_21 : decode cX6_act 21 = .ok (.ifCond .eq 12, 3) := by decide +kernel
theorem dX6_act_24 : decode cX6_act 24 = .ok (.aload_n 0, 1) := by decide +kernel
theorem dX6_act_25 : decode cX6_act 25 = .ok (.iload_n 1, 1) := by decide +kernel
theorem dX6_act_26 : decode cX6_act 26 = .ok (.invokevirtual 275, 3) := by decide +kernel
theorem dX6_act_29 : decode cX6_act 29 = .ok (.iconst 1, 1) := by decide +kernel
theorem dX6_act_30 : decode cX6_act 30 = .ok (.if_icmp .eq 5, 3) := by decide +kernel
theorem dX6_act_33 : decode cX6_act 33 = .ok (.iconst 0, 1) := by decide +kernel
theorem dX6_act_34 : decode cX6_act 34 = .ok (.ireturn, 1) := by decide +kernel
theorem dX6_act_35 : decode cX6_act 35 = .ok (.aload_n 0, 1) := by decide +kernel
theorem dX6_act_36 : decode cX6_act 36 = .ok (.iconst 0, 1) := by decide +kernel
theorem dX6_act_37 : decode cX6_act 37 = .ok (.putfield 308, 3) := by decide +kernel
theorem dX6_act_40 : decode cX6_act 40 = .ok (.aload_n 0, 1) := by decide +kernel
theorem dX6_act_41 : decode cX6_act 41 = .ok (.aload_n 0, 1) := by decide +kernel
theorem dX6_act_42 : decode cX6_act 42 = .ok (.aload_n 0, 1) := by decide +kernel
theorem dX6_act_43 : decode cX6_act 43 = .ok (.getfield 43, 3) := by decide +kernel
theorem dX6_act_46 : decode cX6_act 46 = .ok (.iload_n 1, 1) := by decide +kernel
theorem dX6_act_47 : decode cX6_act 47 = .ok (.iaload, 1) := by decide +kernel
theorem dX6_act_48 : decode cX6_act 48 = .ok (.iconst 0, 1) := by decide +kernel
theorem dX6_act_49 : decode cX6_act 49 = .ok (.invokevirtual 163, 3) := by decide +kernel
theorem dX6_act_52 : decode cX6_act 52 = .ok (.putfield 293, 3) := by decide +kernel
theorem dX6_act_55 : decode cX6_act 55 = .ok (.aload_n 0, 1) := by decide +kernel
theorem dX6_act_56 : decode cX6_act 56 = .ok (.aload_n 0, 1) := by decide +kernel
theorem dX6_act_57 : decode cX6_act 57 = .ok (.getfield 43, 3) := by decide +kernel
theorem dX6_act_60 : decode cX6_act 60 = .ok (.iload_n 1, 1) := by decide +kernel
theorem dX6_act_61 : decode cX6_act 61 = .ok (.iaload, 1) := by decide +kernel
theorem dX6_act_62 : decode cX6_act 62 = .ok (.putfield 287, 3) := by decide +kernel
theorem dX6_act_65 : decode cX6_act 65 = .ok (.aload_n 0, 1) := by decide +kernel
theorem dX6_act_66 : decode cX6_act 66 = .ok (.aload_n 0, 1) := by decide +kernel
theorem dX6_act_67 : decode cX6_act 67 = .ok (.aload_n 0, 1) := by decide +kernel
theorem dX6_act_68 : decode cX6_act 68 = .ok (.getfield 43, 3) := by decide +kernel
theorem dX6_act_71 : decode cX6_act 71 = .ok (.iload_n 1, 1) := by decide +kernel
theorem dX6_act_72 : decode cX6_act 72 = .ok (.iaload, 1) := by decide +kernel
theorem dX6_act_73 : decode cX6_act 73 = .ok (.iconst 1, 1) := by decide +kernel
theorem dX6_act_74 : decode cX6_act 74 = .ok (.invokevirtual 163, 3) := by decide +kernel
theorem dX6_act_77 : decode cX6_act 77 = .ok (.putfield 299, 3) := by decide +kernel
theorem dX6_act_80 : decode cX6_act 80 = .ok (.iload_n 2, 1) := by decide +kernel
theorem dX6_act_81 : decode cX6_act 81 = .ok (.ifCond .ne 11, 3) := by decide +kernel
theorem dX6_act_84 : decode cX6_act 84 = .ok (.aload_n 0, 1) := by decide +kernel
theorem dX6_act_85 : decode cX6_act 85 = .ok (.iload_n 3, 1) := by decide +kernel
theorem dX6_act_86 : decode cX6_act 86 = .ok (.invokevirtual 302, 3) := by decide +kernel
theorem dX6_act_89 : decode cX6_act 89 = .ok (.goto 34, 3) := by decide +kernel
theorem dX6_act_92 : decode cX6_act 92 = .ok (.iload_n 2, 1) := by decide +kernel
theorem dX6_act_93 : decode cX6_act 93 = .ok (.iconst 1, 1) := by decide +kernel
theorem dX6_act_94 : decode cX6_act 94 = .ok (.if_icmp .ne 11, 3) := by decide +kernel
theorem dX6_act_97 : decode cX6_act 97 = .ok (.aload_n 0, 1) := by decide +kernel
theorem dX6_act_98 : decode cX6_act 98 = .ok (.iload_n 3, 1) := by decide +kernel
theorem dX6_act_99 : decode cX6_act 99 = .ok (.invokevirtual 314, 3) := by decide +kernel
theorem dX6_act_102 : decode cX6_act 102 = .ok (.goto 21, 3) := by decide +kernel
theorem dX6_act_105 : decode cX6_act 105 = .ok (.iload_n 2, 1) := by decide +kernel
theorem dX6_act_106 : decode cX6_act 106 = .ok (.iconst 2, 1) := by decide +kernel
theorem dX6_act_107 : decode cX6_act 107 = .ok (.if_icmp .ne 11, 3) := by decide +kernel
theorem dX6_act_110 : decode cX6_act 110 = .ok (.aload_n 0, 1) := by decide +kernel
theorem dX6_act_111 : decode cX6_act 111 = .ok (.iload_n 3, 1) := by decide +kernel
theorem dX6_act_112 : decode cX6_act 112 = .ok (.invokevirtual 320, 3) := by decide +kernel
theorem dX6_act_115 : decode cX6_act 115 = .ok (.goto 8, 3) := by decide +kernel
theorem dX6_act_118 : decode cX6_act 118 = .ok (.aload_n 0, 1) := by decide +kernel
theorem dX6_act_119 : decode cX6_act 119 = .ok (.iload_n 3, 1) := by decide +kernel
theorem dX6_act_120 : decode cX6_act 120 = .ok (.invokevirtual 323, 3) := by decide +kernel
theorem dX6_act_123 : decode cX6_act 123 = .ok (.istore 4, 2) := by decide +kernel
theorem dX6_act_125 : decode cX6_act 125 = .ok (.aload_n 0, 1) := by decide +kernel
theorem dX6_act_126 : decode cX6_act 126 = .ok (.getfield 308, 3) := by decide +kernel
theorem dX6_act_129 : decode cX6_act 129 = .ok (.ifCond .eq 8, 3) := by decide +kernel
theorem dX6_act_132 : decode cX6_act 132 = .ok (.bipush (-15), 2) := by decide +kernel
theorem dX6_act_134 : decode cX6_act 134 = .ok (.goto 5, 3) := by decide +kernel
theorem dX6_act_137 : decode cX6_act 137 = .ok (.iload 4, 2) := by decide +kernel
theorem dX6_act_139 : decode cX6_act 139 = .ok (.ireturn, 1) := by decide +kernel
set_option maxRecDepth 20000 in
theorem ggX6_trace_X6_isIn : GoodIn wsX6_trace wsX6_isIn := goodIn_r _ [6] (by decide +kernel) (by decide +kernel)
set_option maxRecDepth 20000 in
theorem gX6_trace_X6_isIn : GoodIn wsX6_trace (va_wsS RX6 57 yX6_isIn wsX6_isIn) := goodIn_app (goodIn_of _ (by decide +kernel)) ggX6_trace_X6_isIn
theorem dX6_trace_0 : decode cX6_trace 0 = .ok (.iload_n 1, 1) := by decide +kernel
theorem dX6_trace_1 : decode cX6_trace 1 = .ok (.i2l, 1) := by decide +kernel
theorem dX6_trace_2 : decode cX6_trace 2 = .ok (.lconst 0, 1) := by decide +kernel
theorem dX6_trace_3 : decode cX6_trace 3 = .ok (.aload_n 0, 1) := by decide +kernel
theorem dX6_trace_4 : decode cX6_trace 4 = .ok (.getfield 281, 3) := by decide +kernel
theorem dX6_trace_7 : decode cX6_trace 7 = .ok (.iconst 1, 1) := by decide +kernel
theorem dX6_trace_8 : decode cX6_trace 8 = .ok (.isub, 1) := by decide +kernel
theorem dX6_trace_9 : decode cX6_trace 9 = .ok (.i2l, 1) := by decide +kernel
theorem dX6_trace_10 : decode cX6_trace 10 = .ok (.invokestatic 57, 3) := by decide +kernel
theorem dX6_trace_13 : decode cX6_trace 13 = .ok (.ifCond .eq 12, 3) := by decide +kernel
theorem dX6_trace_16 : decode cX6_trace 16 = .ok (.aload_n 0, 1) := by decide +kernel
theorem dX6_trace_17 : decode cX6_trace 17 = .ok (.getfield 49, 3) := by decide +kernel
theorem dX6_trace_20 : decode cX6_trace 20 = .ok (.iload_n 1, 1) := by decide +kernel
theorem dX6_trace_21 : decode cX6_trace 21 = .ok (.iaload, 1) := by decide +kernel
theorem dX6_trace_22 : decode cX6_trace 22 = .ok (.goto 5, 3) := by decide +kernel
theorem dX6_trace_25 : decode cX6_trace 25 = .ok (.bipush (-3), 2) := by decide +kernel
theorem dX6_trace_27 : decode cX6_trace 27 = .ok (.ireturn, 1) := by decide +kernel
set_option maxRecDepth 20000 in
theorem ggX6_many_X6_sounding : GoodIn wsX6_many wsX6_sounding := goodIn_r _ [9, 1, 10, 11, 12, 8, 13, 14, 15, 16, 17, 25, 26, 27, 28, 29, 30, 31, 32, 33, 34, 35, 36, 37, 38, 39, 40, 41, 42, 43, 44, 45, 46, 47, 48, 49, 50, 51] (by decide +kernel) (by decide +kernel)
set_option maxRecDepth 20000 in
theorem gX6_many_X6_sounding : GoodIn wsX6_many (wsV RX6 186 RX6 yX6_sounding wsX6_sounding) := goodIn_app (goodIn_of _ (by decide +kernel)) ggX6_many_X6_sounding
set_option maxRecDepth 20000 in
theorem ggX6_many_X6_size : GoodIn wsX6_many wsX6_size := goodIn_r _ [20] (by decide +kernel) (by decide +kernel)
set_option maxRecDepth 20000 in
theorem gX6_many_X6_size : GoodIn wsX6_many (va_wsS RX6 192 yX6_size wsX6_size) := goodIn_app (goodIn_of _ (by decide +kernel)) ggX6_many_X6_size
set_option maxRecDepth 20000 in
theorem ggX6_many_X6_thoseAt : GoodIn wsX6_many wsX6_thoseAt := goodIn_r _ [24, 1, 14, 15, 16, 8, 17, 25, 26, 27, 28, 29, 30, 31, 32, 33, 34, 35, 36, 37, 38, 39, 40, 41, 42, 43, 44, 45, 46, 47, 48, 49, 50, 51] (by decide +kernel) (by decide +kernel)
set_option maxRecDepth 20000 in
theorem gX6_many_X6_thoseAt : GoodIn wsX6_many (wsV RX6 183 RX6 yX6_thoseAt wsX6_thoseAt) := goodIn_app (goodIn_of _ (by decide +kernel)) ggX6_many_X6_thoseAt
set_option maxRecDepth 20000 in
theorem ggX6_many_X6_its : GoodIn wsX6_many wsX6_its := goodIn_r _ [17, 1, 25, 26, 27, 28, 29, 30, 31, 32, 33, 34, 35, 36, 37, 38, 39, 40, 41, 42, 43, 44, 45, 46, 47, 48, 49, 50, 51] (by decide +kernel) (by decide +kernel)
set_option maxRecDepth 20000 in
theorem gX6_many_X6_its : GoodIn wsX6_many (wsV RX6 163 RX6 yX6_its wsX6_its) := goodIn_app (goodIn_of _ (by decide +kernel)) ggX6_many_X6_its
theorem dX6_many_0 : decode cX6_many 0 = .ok (.iconst 0, 1) := by decide +kernel
theorem dX6_many_1 : decode cX6_many 1 = .ok (.istore_n 2, 1) := by decide +kernel
theorem dX6_many_2 : decode cX6_many 2 = .ok (.iload_n 1, 1) := by decide +kernel
theorem dX6_many_3 : decode cX6_many 3 = .ok (.tableswitch 140 0 6 #[41, 48, 56, 88, 125, 130, 135], 41) := by decide +kernel
theorem dX6_many_44 : decode cX6_many 44 = .ok (.aload_n 0, 1) := by decide +kernel
theorem dX6_many_45 : decode cX6_many 45 = .ok (.getfield 7, 3) := by decide +kernel
theorem dX6_many_48 : decode cX6_many 48 = .ok (.iconst 0, 1) := by decide +kernel
theorem dX6_many_49 : decode cX6_many 49 = .ok (.iaload, 1) := by decide +kernel
theorem dX6_many_50 : decode cX6_many 50 = .ok (.ireturn, 1) := by decide +kernel
theorem dX6_many_51 : decode cX6_many 51 = .ok (.aload_n 0, 1) := by decide +kernel
theorem dX6_many_52 : decode cX6_many 52 = .ok (.invokevirtual 186, 3) := by decide +kernel
theorem dX6_many_55 : decode cX6_many 55 = .ok (.invokestatic 192, 3) := by decide +kernel
theorem dX6_many_58 : decode cX6_many 58 = .ok (.ireturn, 1) := by decide +kernel
theorem dX6_many_59 : decode cX6_many 59 = .ok (.iconst 0, 1) := by decide +kernel
theorem dX6_many_60 : decode cX6_many 60 = .ok (.istore_n 3, 1) := by decide +kernel
theorem dX6_many_61 : decode cX6_many 61 = .ok (.iload_n 3, 1) := by decide +kernel
theorem dX6_many_62 : decode cX6_many 62 = .ok (.bipush 12, 2) := by decide +kernel
theorem dX6_many_64 : decode cX6_many 64 = .ok (.if_icmp .ge 25, 3) := by decide +kernel
theorem dX6_many_67 : decode cX6_many 67 = .ok (.iload_n 2, 1) := by decide +kernel
theorem dX6_many_68 : decode cX6_many 68 = .ok (.aload_n 0, 1) := by decide +kernel
theorem dX6_many_69 : decode cX6_many 69 = .ok (.iload_n 3, 1) := by decide +kernel
theorem dX6_many_70 : decode cX6_many 70 = .ok (.invokevirtual 183, 3) := by decide +kernel
theorem dX6_many_73 : decode cX6_many 73 = .ok (.ifCond .ne 7, 3) := by decide +kernel
theorem dX6_many_76 : decode cX6_many 76 = .ok (.iconst 0, 1) := by decide +kernel
theorem dX6_many_77 : decode cX6_many 77 = .ok (.goto 4, 3) := by decide +kernel
theorem dX6_many_80 : decode cX6_many 80 = .ok (.iconst 1, 1) := by decide +kernel
theorem dX6_many_81 : decode cX6_many 81 = .ok (.iadd, 1) := by decide +kernel
theorem dX6_many_82 : decode cX6_many 82 = .ok (.istore_n 2, 1) := by decide +kernel
theorem dX6_many_83 : decode cX6_many 83 = .ok (.iinc 3 1, 3) := by decide +kernel
theorem dX6_many_86 : decode cX6_many 86 = .ok (.goto (-25), 3) := by decide +kernel
theorem dX6_many_89 : decode cX6_many 89 = .ok (.iload_n 2, 1) := by decide +kernel
theorem dX6_many_90 : decode cX6_many 90 = .ok (.ireturn, 1) := by decide +kernel
theorem dX6_many_91 : decode cX6_many 91 = .ok (.iconst 0, 1) := by decide +kernel
theorem dX6_many_92 : decode cX6_many 92 = .ok (.istore_n 3, 1) := by decide +kernel
theorem dX6_many_93 : decode cX6_many 93 = .ok (.iload_n 3, 1) := by decide +kernel
theorem dX6_many_94 : decode cX6_many 94 = .ok (.aload_n 0, 1) := by decide +kernel
theorem dX6_many_95 : decode cX6_many 95 = .ok (.getfield 7, 3) := by decide +kernel
theorem dX6_many_98 : decode cX6_many 98 = .ok (.iconst 0, 1) := by decide +kernel
theorem dX6_many_99 : decode cX6_many 99 = .ok (.iaload, 1) := by decide +kernel
theorem dX6_many_100 : decode cX6_many 100 = .ok (.if_icmp .ge 26, 3) := by decide +kernel
theorem dX6_many_103 : decode cX6_many 103 = .ok (.iload_n 2, 1) := by decide +kernel
theorem dX6_many_104 : decode cX6_many 104 = .ok (.aload_n 0, 1) := by decide +kernel
theorem dX6_many_105 : decode cX6_many 105 = .ok (.iload_n 3, 1) := by decide +kernel
theorem dX6_many_106 : decode cX6_many 106 = .ok (.iconst 4, 1) := by decide +kernel
theorem dX6_many_107 : decode cX6_many 107 = .ok (.invokevirtual 163, 3) := by decide +kernel
theorem dX6_many_110 : decode cX6_many 110 = .ok (.ifCond .le 7, 3) := by decide +kernel
theorem dX6_many_113 : decode cX6_many 113 = .ok (.iconst 1, 1) := by decide +kernel
theorem dX6_many_114 : decode cX6_many 114 = .ok (.goto 4, 3) := by decide +kernel
theorem dX6_many_117 : decode cX6_many 117 = .ok (.iconst 0, 1) := by decide +kernel
theorem dX6_many_118 : decode cX6_many 118 = .ok (.iadd, 1) := by decide +kernel
theorem dX6_many_119 : decode cX6_many 119 = .ok (.istore_n 2, 1) := by decide +kernel
theorem dX6_many_120 : decode cX6_many 120 = .ok (.iinc 3 1, 3) := by decide +kernel
theorem dX6_many_123 : decode cX6_many 123 = .ok (.goto (-30), 3) := by decide +kernel
theorem dX6_many_126 : decode cX6_many 126 = .ok (.iload_n 2, 1) := by decide +kernel
theorem dX6_many_127 : decode cX6_many 127 = .ok (.ireturn, 1) := by decide +kernel
theorem dX6_many_128 : decode cX6_many 128 = .ok (.aload_n 0, 1) := by decide +kernel
theorem dX6_many_129 : decode cX6_many 129 = .ok (.getfield 145, 3) := by decide +kernel
theorem dX6_many_132 : decode cX6_many 132 = .ok (.ireturn, 1) := by decide +kernel
theorem dX6_many_133 : decode cX6_many 133 = .ok (.aload_n 0, 1) := by decide +kernel
theorem dX6_many_134 : decode cX6_many 134 = .ok (.getfield 61, 3) := by decide +kernel
theorem dX6_many_137 : decode cX6_many 137 = .ok (.ireturn, 1) := by decide +kernel
theorem dX6_many_138 : decode cX6_many 138 = .ok (.aload_n 0, 1) := by decide +kernel
theorem dX6_many_139 : decode cX6_many 139 = .ok (.getfield 281, 3) := by decide +kernel
theorem dX6_many_142 : decode cX6_many 142 = .ok (.ireturn, 1) := by decide +kernel
theorem dX6_many_143 : decode cX6_many 143 = .ok (.iconst (-1), 1) := by decide +kernel
theorem dX6_many_144 : decode cX6_many 144 = .ok (.ireturn, 1) := by decide +kernel
theorem dX6_keep_0 : decode cX6_keep 0 = .ok (.iconst 0, 1) := by decide +kernel
theorem dX6_keep_1 : decode cX6_keep 1 = .ok (.istore_n 1, 1) := by decide +kernel
theorem dX6_keep_2 : decode cX6_keep 2 = .ok (.iload_n 1, 1) := by decide +kernel
theorem dX6_keep_3 : decode cX6_keep 3 = .ok (.bipush 50, 2) := by decide +kernel
theorem dX6_keep_5 : decode cX6_keep 5 = .ok (.if_icmp .ge 21, 3) := by decide +kernel
theorem dX6_keep_8 : decode cX6_keep 8 = .ok (.aload_n 0, 1) := by decide +kernel
theorem dX6_keep_9 : decode cX6_keep 9 = .ok (.getfield 13, 3) := by decide +kernel
theorem dX6_keep_12 : decode cX6_keep 12 = .ok (.iload_n 1, 1) := by decide +kernel
theorem dX6_keep_13 : decode cX6_keep 13 = .ok (.aload_n 0, 1) := by decide +kernel
theorem dX6_keep_14 : decode cX6_keep 14 = .ok (.getfield 7, 3) := by decide +kernel
theorem dX6_keep_17 : decode cX6_keep 17 = .ok (.iload_n 1, 1) := by decide +kernel
theorem dX6_keep_18 : decode cX6_keep 18 = .ok (.iaload, 1) := by decide +kernel
theorem dX6_keep_19 : decode cX6_keep 19 = .ok (.iastore, 1) := by decide +kernel
theorem dX6_keep_20 : decode cX6_keep 20 = .ok (.iinc 1 1, 3) := by decide +kernel
theorem dX6_keep_23 : decode cX6_keep 23 = .ok (.goto (-21), 3) := by decide +kernel
theorem dX6_keep_26 : decode cX6_keep 26 = .ok (.aload_n 0, 1) := by decide +kernel
theorem dX6_keep_27 : decode cX6_keep 27 = .ok (.iconst 1, 1) := by decide +kernel
theorem dX6_keep_28 : decode cX6_keep 28 = .ok (.putfield 326, 3) := by decide +kernel
theorem dX6_keep_31 : decode cX6_keep 31 = .ok (.iconst 1, 1) := by decide +kernel
theorem dX6_keep_32 : decode cX6_keep 32 = .ok (.ireturn, 1) := by decide +kernel
theorem dX6_again_0 : decode cX6_again 0 = .ok (.aload_n 0, 1) := by decide +kernel
theorem dX6_again_1 : decode cX6_again 1 = .ok (.getfield 326, 3) := by decide +kernel
theorem dX6_again_4 : decode cX6_again 4 = .ok (.ifCond .ne 6, 3) := by decide +kernel
theorem dX6_again_7 : decode cX6_again 7 = .ok (.bipush (-3), 2) := by decide +kernel
theorem dX6_again_9 : decode cX6_again 9 = .ok (.ireturn, 1) := by decide +kernel
theorem dX6_again_10 : decode cX6_again 10 = .ok (.iconst 0, 1) := by decide +kernel
theorem dX6_again_11 : decode cX6_again 11 = .ok (.istore_n 1, 1) := by decide +kernel
theorem dX6_again_12 : decode cX6_again 12 = .ok (.iload_n 1, 1) := by decide +kernel
theorem dX6_again_13 : decode cX6_again 13 = .ok (.bipush 50, 2) := by decide +kernel
theorem dX6_again_15 : decode cX6_again 15 = .ok (.if_icmp .ge 21, 3) := by decide +kernel
theorem dX6_again_18 : decode cX6_again 18 = .ok (.aload_n 0, 1) := by decide +kernel
theorem dX6_again_19 : decode cX6_again 19 = .ok (.getfield 7, 3) := by decide +kernel
theorem dX6_again_22 : decode cX6_again 22 = .ok (.iload_n 1, 1) := by decide +kernel
theorem dX6_again_23 : decode cX6_again 23 = .ok (.aload_n 0, 1) := by decide +kernel
theorem dX6_again_24 : decode cX6_again 24 = .ok (.getfield 13, 3) := by decide +kernel
theorem dX6_again_27 : decode cX6_again 27 = .ok (.iload_n 1, 1) := by decide +kernel
theorem dX6_again_28 : decode cX6_again 28 = .ok (.iaload, 1) := by decide +kernel
theorem dX6_again_29 : decode cX6_again 29 = .ok (.iastore, 1) := by decide +kernel
theorem dX6_again_30 : decode cX6_again 30 = .ok (.iinc 1 1, 3) := by decide +kernel
theorem dX6_again_33 : decode cX6_again 33 = .ok (.goto (-21), 3) := by decide +kernel
theorem dX6_again_36 : decode cX6_again 36 = .ok (.aload_n 0, 1) := by decide +kernel
theorem dX6_again_37 : decode cX6_again 37 = .ok (.getfield 7, 3) := by decide +kernel
theorem dX6_again_40 : decode cX6_again 40 = .ok (.iconst 0, 1) := by decide +kernel
theorem dX6_again_41 : decode cX6_again 41 = .ok (.iaload, 1) := by decide +kernel
theorem dX6_again_42 : decode cX6_again 42 = .ok (.ireturn, 1) := by decide +kernel
