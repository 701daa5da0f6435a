set_option maxRecDepth 20000 in
theorem ggX0_init_X1_init : GoodIn wsX0_init wsX1_init := goodIn_r _ [3, 4, 5, 6] (by decide +kernel) (by decide +kernel)
set_option maxRecDepth 20000 in
theorem gX0_init_X1_init_n1 : GoodIn wsX0_init (wsX1_init) := ggX0_init_X1_init
theorem dX0_init_0 : decode cX0_init 0 = .ok (.aload_n 0, 1) := by decide +kernel
theorem dX0_init_1 : decode cX0_init 1 = .ok (.invokespecial 1, 3) := by decide +kernel
theorem dX0_init_4 : decode cX0_init 4 = .ok (.return_, 1) := by decide +kernel
set_option maxRecDepth 20000 in
theorem ggX0_yards_X1_yards : GoodIn wsX0_yards wsX1_yards := goodIn_r _ [6] (by decide +kernel) (by decide +kernel)
set_option maxRecDepth 20000 in
theorem gX0_yards_X1_yards_s7 : GoodIn wsX0_yards (va_wsSU RX0 7 yX1_yards wsX1_yards) := goodIn_app (goodIn_of _ (by decide +kernel)) ggX0_yards_X1_yards
theorem dX0_yards_0 : decode cX0_yards 0 = .ok (.aload_n 0, 1) := by decide +kernel
theorem dX0_yards_1 : decode cX0_yards 1 = .ok (.iload_n 1, 1) := by decide +kernel
theorem dX0_yards_2 : decode cX0_yards 2 = .ok (.iload_n 2, 1) := by decide +kernel
theorem dX0_yards_3 : decode cX0_yards 3 = .ok (.iload_n 3, 1) := by decide +kernel
theorem dX0_yards_4 : decode cX0_yards 4 = .ok (.invokespecial 7, 3) := by decide +kernel
theorem dX0_yards_7 : decode cX0_yards 7 = .ok (.iconst 1, 1) := by decide +kernel
theorem dX0_yards_8 : decode cX0_yards 8 = .ok (.iadd, 1) := by decide +kernel
theorem dX0_yards_9 : decode cX0_yards 9 = .ok (.iconst 2, 1) := by decide +kernel
theorem dX0_yards_10 : decode cX0_yards 10 = .ok (.idiv, 1) := by decide +kernel
theorem dX0_yards_11 : decode cX0_yards 11 = .ok (.ireturn, 1) := by decide +kernel
theorem dX1_init_0 : decode cX1_init 0 = .ok (.aload_n 0, 1) := by decide +kernel
theorem dX1_init_1 : decode cX1_init 1 = .ok (.invokespecial 1, 3) := by decide +kernel
theorem dX1_init_4 : decode cX1_init 4 = .ok (.return_, 1) := by decide +kernel
theorem dX1_yards_0 : decode cX1_yards 0 = .ok (.iload_n 1, 1) := by decide +kernel
theorem dX1_yards_1 : decode cX1_yards 1 = .ok (.iload_n 2, 1) := by decide +kernel
theorem dX1_yards_2 : decode cX1_yards 2 = .ok (.iadd, 1) := by decide +kernel
theorem dX1_yards_3 : decode cX1_yards 3 = .ok (.iconst 2, 1) := by decide +kernel
theorem dX1_yards_4 : decode cX1_yards 4 = .ok (.iload_n 3, 1) := by decide +kernel
theorem dX1_yards_5 : decode cX1_yards 5 = .ok (.imul, 1) := by decide +kernel
theorem dX1_yards_6 : decode cX1_yards 6 = .ok (.iadd, 1) := by decide +kernel
theorem dX1_yards_7 : decode cX1_yards 7 = .ok (.ireturn, 1) := by decide +kernel
set_option maxRecDepth 20000 in
theorem ggX2_init_X1_init : GoodIn wsX2_init wsX1_init := goodIn_r _ [34, 35, 2, 3] (by decide +kernel) (by decide +kernel)
set_option maxRecDepth 20000 in
theorem gX2_init_X1_init_n11 : GoodIn wsX2_init (wsX1_init) := ggX2_init_X1_init
set_option maxRecDepth 20000 in
theorem ggX2_init_X0_init : GoodIn wsX2_init wsX0_init := goodIn_r _ [37, 33, 6, 34, 35, 2, 3] (by decide +kernel) (by decide +kernel)
set_option maxRecDepth 20000 in
theorem gX2_init_X0_init_n14 : GoodIn wsX2_init (wsX0_init) := ggX2_init_X0_init
set_option maxRecDepth 20000 in
theorem ggX2_init_X4_init : GoodIn wsX2_init wsX4_init := goodIn_r _ [39, 33, 6, 34, 35, 2, 3] (by decide +kernel) (by decide +kernel)
set_option maxRecDepth 20000 in
theorem gX2_init_X4_init_n17 : GoodIn wsX2_init (wsX4_init) := ggX2_init_X4_init
set_option maxRecDepth 20000 in
theorem ggX2_init_X10_init : GoodIn wsX2_init wsX10_init := goodIn_r _ [41, 33, 6, 34, 35, 2, 3] (by decide +kernel) (by decide +kernel)
set_option maxRecDepth 20000 in
theorem gX2_init_X10_init_n20 : GoodIn wsX2_init (wsX10_init) := ggX2_init_X10_init
set_option maxRecDepth 20000 in
theorem ggX2_init_X3_init : GoodIn wsX2_init wsX3_init := goodIn_r _ [43, 38, 12, 39, 33, 6, 34, 35, 2, 3] (by decide +kernel) (by decide +kernel)
set_option maxRecDepth 20000 in
theorem gX2_init_X3_init_n23 : GoodIn wsX2_init (wsX3_init) := ggX2_init_X3_init
theorem dX2_init_0 : decode cX2_init 0 = .ok (.aload_n 0, 1) := by decide +kernel
theorem dX2_init_1 : decode cX2_init 1 = .ok (.invokespecial 3, 3) := by decide +kernel
theorem dX2_init_4 : decode cX2_init 4 = .ok (.aload_n 0, 1) := by decide +kernel
theorem dX2_init_5 : decode cX2_init 5 = .ok (.iconst 5, 1) := by decide +kernel
theorem dX2_init_6 : decode cX2_init 6 = .ok (.anewarray 9, 3) := by decide +kernel
theorem dX2_init_9 : decode cX2_init 9 = .ok (.dup, 1) := by decide +kernel
theorem dX2_init_10 : decode cX2_init 10 = .ok (.iconst 0, 1) := by decide +kernel
theorem dX2_init_11 : decode cX2_init 11 = .ok (.new 9, 3) := by decide +kernel
theorem dX2_init_14 : decode cX2_init 14 = .ok (.dup, 1) := by decide +kernel
theorem dX2_init_15 : decode cX2_init 15 = .ok (.invokespecial 11, 3) := by decide +kernel
theorem dX2_init_18 : decode cX2_init 18 = .ok (.aastore, 1) := by decide +kernel
theorem dX2_init_19 : decode cX2_init 19 = .ok (.dup, 1) := by decide +kernel
theorem dX2_init_20 : decode cX2_init 20 = .ok (.iconst 1, 1) := by decide +kernel
theorem dX2_init_21 : decode cX2_init 21 = .ok (.new 12, 3) := by decide +kernel
theorem dX2_init_24 : decode cX2_init 24 = .ok (.dup, 1) := by decide +kernel
theorem dX2_init_25 : decode cX2_init 25 = .ok (.invokespecial 14, 3) := by decide +kernel
theorem dX2_init_28 : decode cX2_init 28 = .ok (.aastore, 1) := by decide +kernel
theorem dX2_init_29 : decode cX2_init 29 = .ok (.dup, 1) := by decide +kernel
theorem dX2_init_30 : decode cX2_init 30 = .ok (.iconst 2, 1) := by decide +kernel
theorem dX2_init_31 : decode cX2_init 31 = .ok (.new 15, 3) := by decide +kernel
theorem dX2_init_34 : decode cX2_init 34 = .ok (.dup, 1) := by decide +kernel
theorem dX2_init_35 : decode cX2_init 35 = .ok (.invokespecial 17, 3) := by decide +kernel
theorem dX2_init_38 : decode cX2_init 38 = .ok (.aastore, 1) := by decide +kernel
theorem dX2_init_39 : decode cX2_init 39 = .ok (.dup, 1) := by decide +kernel
theorem dX2_init_40 : decode cX2_init 40 = .ok (.iconst 3, 1) := by decide +kernel
theorem dX2_init_41 : decode cX2_init 41 = .ok (.new 18, 3) := by decide +kernel
theorem dX2_init_44 : decode cX2_init 44 = .ok (.dup, 1) := by decide +kernel
theorem dX2_init_45 : decode cX2_init 45 = .ok (.invokespecial 20, 3) := by decide +kernel
theorem dX2_init_48 : decode cX2_init 48 = .ok (.aastore, 1) := by decide +kernel
theorem dX2_init_49 : decode cX2_init 49 = .ok (.dup, 1) := by decide +kernel
theorem dX2_init_50 : decode cX2_init 50 = .ok (.iconst 4, 1) := by decide +kernel
theorem dX2_init_51 : decode cX2_init 51 = .ok (.new 21, 3) := by decide +kernel
theorem dX2_init_54 : decode cX2_init 54 = .ok (.dup, 1) := by decide +kernel
theorem dX2_init_55 : decode cX2_init 55 = .ok (.invokespecial 23, 3) := by decide +kernel
theorem dX2_init_58 : decode cX2_init 58 = .ok (.aastore, 1) := by decide +kernel
theorem dX2_init_59 : decode cX2_init 59 = .ok (.putfield 24, 3) := by decide +kernel
theorem dX2_init_62 : decode cX2_init 62 = .ok (.aload_n 0, 1) := by decide +kernel
theorem dX2_init_63 : decode cX2_init 63 = .ok (.bipush 7, 2) := by decide +kernel
theorem dX2_init_65 : decode cX2_init 65 = .ok (.newarray .int, 2) := by decide +kernel
theorem dX2_init_67 : decode cX2_init 67 = .ok (.putfield 30, 3) := by decide +kernel
theorem dX2_init_70 : decode cX2_init 70 = .ok (.aload_n 0, 1) := by decide +kernel
theorem dX2_init_71 : decode cX2_init 71 = .ok (.bipush 7, 2) := by decide +kernel
theorem dX2_init_73 : decode cX2_init 73 = .ok (.newarray .int, 2) := by decide +kernel
theorem dX2_init_75 : decode cX2_init 75 = .ok (.putfield 34, 3) := by decide +kernel
theorem dX2_init_78 : decode cX2_init 78 = .ok (.aload_n 0, 1) := by decide +kernel
theorem dX2_init_79 : decode cX2_init 79 = .ok (.bipush 7, 2) := by decide +kernel
theorem dX2_init_81 : decode cX2_init 81 = .ok (.newarray .int, 2) := by decide +kernel
theorem dX2_init_83 : decode cX2_init 83 = .ok (.putfield 37, 3) := by decide +kernel
theorem dX2_init_86 : decode cX2_init 86 = .ok (.aload_n 0, 1) := by decide +kernel
theorem dX2_init_87 : decode cX2_init 87 = .ok (.iconst 5, 1) := by decide +kernel
theorem dX2_init_88 : decode cX2_init 88 = .ok (.newarray .int, 2) := by decide +kernel
theorem dX2_init_90 : decode cX2_init 90 = .ok (.putfield 40, 3) := by decide +kernel
theorem dX2_init_93 : decode cX2_init 93 = .ok (.aload_n 0, 1) := by decide +kernel
theorem dX2_init_94 : decode cX2_init 94 = .ok (.iconst 5, 1) := by decide +kernel
theorem dX2_init_95 : decode cX2_init 95 = .ok (.newarray .int, 2) := by decide +kernel
theorem dX2_init_97 : decode cX2_init 97 = .ok (.putfield 43, 3) := by decide +kernel
theorem dX2_init_100 : decode cX2_init 100 = .ok (.aload_n 0, 1) := by decide +kernel
theorem dX2_init_101 : decode cX2_init 101 = .ok (.iconst 5, 1) := by decide +kernel
theorem dX2_init_102 : decode cX2_init 102 = .ok (.newarray .int, 2) := by decide +kernel
theorem dX2_init_104 : decode cX2_init 104 = .ok (.putfield 46, 3) := by decide +kernel
theorem dX2_init_107 : decode cX2_init 107 = .ok (.aload_n 0, 1) := by decide +kernel
theorem dX2_init_108 : decode cX2_init 108 = .ok (.iconst 5, 1) := by decide +kernel
theorem dX2_init_109 : decode cX2_init 109 = .ok (.newarray .int, 2) := by decide +kernel
theorem dX2_init_111 : decode cX2_init 111 = .ok (.putfield 49, 3) := by decide +kernel
theorem dX2_init_114 : decode cX2_init 114 = .ok (.aload_n 0, 1) := by decide +kernel
theorem dX2_init_115 : decode cX2_init 115 = .ok (.iconst 5, 1) := by decide +kernel
theorem dX2_init_116 : decode cX2_init 116 = .ok (.newarray .int, 2) := by decide +kernel
theorem dX2_init_118 : decode cX2_init 118 = .ok (.putfield 52, 3) := by decide +kernel
theorem dX2_init_121 : decode cX2_init 121 = .ok (.aload_n 0, 1) := by decide +kernel
theorem dX2_init_122 : decode cX2_init 122 = .ok (.bipush 6, 2) := by decide +kernel
theorem dX2_init_124 : decode cX2_init 124 = .ok (.newarray .int, 2) := by decide +kernel
theorem dX2_init_126 : decode cX2_init 126 = .ok (.putfield 55, 3) := by decide +kernel
theorem dX2_init_129 : decode cX2_init 129 = .ok (.aload_n 0, 1) := by decide +kernel
theorem dX2_init_130 : decode cX2_init 130 = .ok (.bipush 6, 2) := by decide +kernel
theorem dX2_init_132 : decode cX2_init 132 = .ok (.newarray .int, 2) := by decide +kernel
theorem dX2_init_134 : decode cX2_init 134 = .ok (.putfield 58, 3) := by decide +kernel
theorem dX2_init_137 : decode cX2_init 137 = .ok (.aload_n 0, 1) := by decide +kernel
theorem dX2_init_138 : decode cX2_init 138 = .ok (.bipush 6, 2) := by decide +kernel
theorem dX2_init_140 : decode cX2_init 140 = .ok (.newarray .int, 2) := by decide +kernel
theorem dX2_init_142 : decode cX2_init 142 = .ok (.putfield 61, 3) := by decide +kernel
theorem dX2_init_145 : decode cX2_init 145 = .ok (.aload_n 0, 1) := by decide +kernel
theorem dX2_init_146 : decode cX2_init 146 = .ok (.bipush 6, 2) := by decide +kernel
theorem dX2_init_148 : decode cX2_init 148 = .ok (.newarray .int, 2) := by decide +kernel
theorem dX2_init_150 : decode cX2_init 150 = .ok (.putfield 64, 3) := by decide +kernel
theorem dX2_init_153 : decode cX2_init 153 = .ok (.return_, 1) := by decide +kernel
set_option maxRecDepth 20000 in
theorem ggX2_settle_X5_border : GoodIn wsX2_settle wsX5_border := goodIn_r _ [23, 24, 25, 142, 143] (by decide +kernel) (by decide +kernel)
set_option maxRecDepth 20000 in
theorem gX2_settle_X5_border : GoodIn wsX2_settle (wsV RX2 67 RX5 yX5_border wsX5_border) := goodIn_app (goodIn_of _ (by decide +kernel)) ggX2_settle_X5_border
set_option maxRecDepth 20000 in
theorem ggX2_settle_X5_digitAt : GoodIn wsX2_settle wsX5_digitAt := goodIn_r _ [29, 30, 31, 32, 22, 33, 24, 25, 142, 143] (by decide +kernel) (by decide +kernel)
set_option maxRecDepth 20000 in
theorem gX2_settle_X5_digitAt : GoodIn wsX2_settle (wsV RX2 73 RX5 yX5_digitAt wsX5_digitAt) := goodIn_app (goodIn_of _ (by decide +kernel)) ggX2_settle_X5_digitAt
set_option maxRecDepth 20000 in
theorem ggX2_settle_X5_kindAt : GoodIn wsX2_settle wsX5_kindAt := goodIn_r _ [37, 30, 31, 32, 22, 33, 24, 25, 38, 39, 40, 41, 42, 43, 44, 45, 46, 47, 48, 49, 50, 51, 52, 53, 54, 55, 56, 57, 58, 59, 60, 61, 62, 63, 64, 65, 66, 67, 4, 68, 69, 3, 5, 70, 71, 72, 73, 74, 75, 76, 77, 78, 79, 80, 81, 82, 83, 84, 85, 86, 87, 88, 89, 90, 91, 92, 93, 94, 95, 96, 97, 98, 99, 100, 101, 102, 103, 104, 105, 106, 107, 108, 109, 110, 111, 112, 113, 114, 115, 116, 117, 118, 119, 120, 121, 122, 123, 142, 143] (by decide +kernel) (by decide +kernel)
set_option maxRecDepth 20000 in
theorem gX2_settle_X5_kindAt : GoodIn wsX2_settle (wsV RX2 96 RX5 yX5_kindAt wsX5_kindAt) := goodIn_app (goodIn_of _ (by decide +kernel)) ggX2_settle_X5_kindAt
theorem dX2_settle_0 : decode cX2_settle 0 = .ok (.aload_n 1, 1) := by decide +kernel
theorem dX2_settle_1 : decode cX2_settle 1 = .ok (.invokevirtual 67, 3) := by decide +kernel
theorem dX2_settle_4 : decode cX2_settle 4 = .ok (.istore_n 2, 1) := by decide +kernel
theorem dX2_settle_5 : decode cX2_settle 5 = .ok (.aload_n 0, 1) := by decide +kernel
theorem dX2_settle_6 : decode cX2_settle 6 = .ok (.aload_n 1, 1) := by decide +kernel
theorem dX2_settle_7 : decode cX2_settle 7 = .ok (.iconst 0, 1) := by decide +kernel
theorem dX2_settle_8 : decode cX2_settle 8 = .ok (.invokevirtual 73, 3) := by decide +kernel
theorem dX2_settle_11 : decode cX2_settle 11 = .ok (.putfield 77, 3) := by decide +kernel
theorem dX2_settle_14 : decode cX2_settle 14 = .ok (.aload_n 0, 1) := by decide +kernel
theorem dX2_settle_15 : decode cX2_settle 15 = .ok (.iload_n 2, 1) := by decide +kernel
theorem dX2_settle_16 : decode cX2_settle 16 = .ok (.iconst 1, 1) := by decide +kernel
theorem dX2_settle_17 : decode cX2_settle 17 = .ok (.isub, 1) := by decide +kernel
theorem dX2_settle_18 : decode cX2_settle 18 = .ok (.iconst 4, 1) := by decide +kernel
theorem dX2_settle_19 : decode cX2_settle 19 = .ok (.idiv, 1) := by decide +kernel
theorem dX2_settle_20 : decode cX2_settle 20 = .ok (.bipush 7, 2) := by decide +kernel
theorem dX2_settle_22 : decode cX2_settle 22 = .ok (.invokestatic 81, 3) := by decide +kernel
theorem dX2_settle_25 : decode cX2_settle 25 = .ok (.putfield 87, 3) := by decide +kernel
theorem dX2_settle_28 : decode cX2_settle 28 = .ok (.aload_n 0, 1) := by decide +kernel
theorem dX2_settle_29 : decode cX2_settle 29 = .ok (.aload_n 1, 1) := by decide +kernel
theorem dX2_settle_30 : decode cX2_settle 30 = .ok (.getfield 90, 3) := by decide +kernel
theorem dX2_settle_33 : decode cX2_settle 33 = .ok (.iload_n 2, 1) := by decide +kernel
theorem dX2_settle_34 : decode cX2_settle 34 = .ok (.isub, 1) := by decide +kernel
theorem dX2_settle_35 : decode cX2_settle 35 = .ok (.iconst 4, 1) := by decide +kernel
theorem dX2_settle_36 : decode cX2_settle 36 = .ok (.idiv, 1) := by decide +kernel
theorem dX2_settle_37 : decode cX2_settle 37 = .ok (.iconst 5, 1) := by decide +kernel
theorem dX2_settle_38 : decode cX2_settle 38 = .ok (.invokestatic 81, 3) := by decide +kernel
theorem dX2_settle_41 : decode cX2_settle 41 = .ok (.putfield 93, 3) := by decide +kernel
theorem dX2_settle_44 : decode cX2_settle 44 = .ok (.iconst 0, 1) := by decide +kernel
theorem dX2_settle_45 : decode cX2_settle 45 = .ok (.istore_n 3, 1) := by decide +kernel
theorem dX2_settle_46 : decode cX2_settle 46 = .ok (.iload_n 3, 1) := by decide +kernel
theorem dX2_settle_47 : decode cX2_settle 47 = .ok (.aload_n 0, 1) := by decide +kernel
theorem dX2_settle_48 : decode cX2_settle 48 = .ok (.getfield 87, 3) := by decide +kernel
theorem dX2_settle_51 : decode cX2_settle 51 = .ok (.if_icmp .ge 56, 3) := by decide +kernel
theorem dX2_settle_54 : decode cX2_settle 54 = .ok (.iconst 2, 1) := by decide +kernel
theorem dX2_settle_55 : decode cX2_settle 55 = .ok (.iconst 4, 1) := by decide +kernel
theorem dX2_settle_56 : decode cX2_settle 56 = .ok (.iload_n 3, 1) := by decide +kernel
theorem dX2_settle_57 : decode cX2_settle 57 = .ok (.imul, 1) := by decide +kernel
theorem dX2_settle_58 : decode cX2_settle 58 = .ok (.iadd, 1) := by decide +kernel
theorem dX2_settle_59 : decode cX2_settle 59 = .ok (.istore 4, 2) := by decide +kernel
theorem dX2_settle_61 : decode cX2_settle 61 = .ok (.aload_n 0, 1) := by decide +kernel
theorem dX2_settle_62 : decode cX2_settle 62 = .ok (.getfield 30, 3) := by decide +kernel
theorem dX2_settle_65 : decode cX2_settle 65 = .ok (.iload_n 3, 1) := by decide +kernel
theorem dX2_settle_66 : decode cX2_settle 66 = .ok (.aload_n 1, 1) := by decide +kernel
theorem dX2_settle_67 : decode cX2_settle 67 = .ok (.iload 4, 2) := by decide +kernel
theorem dX2_settle_69 : decode cX2_settle 69 = .ok (.invokevirtual 73, 3) := by decide +kernel
theorem dX2_settle_72 : decode cX2_settle 72 = .ok (.iastore, 1) := by decide +kernel
theorem dX2_settle_73 : decode cX2_settle 73 = .ok (.aload_n 0, 1) := by decide +kernel
theorem dX2_settle_74 : decode cX2_settle 74 = .ok (.getfield 34, 3) := by decide +kernel
theorem dX2_settle_77 : decode cX2_settle 77 = .ok (.iload_n 3, 1) := by decide +kernel
theorem dX2_settle_78 : decode cX2_settle 78 = .ok (.aload_n 1, 1) := by decide +kernel
theorem dX2_settle_79 : decode cX2_settle 79 = .ok (.iload 4, 2) := by decide +kernel
theorem dX2_settle_81 : decode cX2_settle 81 = .ok (.iconst 1, 1) := by decide +kernel
theorem dX2_settle_82 : decode cX2_settle 82 = .ok (.iadd, 1) := by decide +kernel
theorem dX2_settle_83 : decode cX2_settle 83 = .ok (.invokevirtual 73, 3) := by decide +kernel
theorem dX2_settle_86 : decode cX2_settle 86 = .ok (.iastore, 1) := by decide +kernel
theorem dX2_settle_87 : decode cX2_settle 87 = .ok (.aload_n 0, 1) := by decide +kernel
theorem dX2_settle_88 : decode cX2_settle 88 = .ok (.getfield 37, 3) := by decide +kernel
theorem dX2_settle_91 : decode cX2_settle 91 = .ok (.iload_n 3, 1) := by decide +kernel
theorem dX2_settle_92 : decode cX2_settle 92 = .ok (.aload_n 1, 1) := by decide +kernel
theorem dX2_settle_93 : decode cX2_settle 93 = .ok (.iload 4, 2) := by decide +kernel
theorem dX2_settle_95 : decode cX2_settle 95 = .ok (.iconst 2, 1) := by decide +kernel
theorem dX2_settle_96 : decode cX2_settle 96 = .ok (.iadd, 1) := by decide +kernel
theorem dX2_settle_97 : decode cX2_settle 97 = .ok (.invokevirtual 73, 3) := by decide +kernel
theorem dX2_settle_100 : decode cX2_settle 100 = .ok (.iastore, 1) := by decide +kernel
theorem dX2_settle_101 : decode cX2_settle 101 = .ok (.iinc 3 1, 3) := by decide +kernel
theorem dX2_settle_104 : decode cX2_settle 104 = .ok (.goto (-58), 3) := by decide +kernel
theorem dX2_settle_107 : decode cX2_settle 107 = .ok (.iconst 0, 1) := by decide +kernel
theorem dX2_settle_108 : decode cX2_settle 108 = .ok (.istore_n 3, 1) := by decide +kernel
theorem dX2_settle_109 : decode cX2_settle 109 = .ok (.iload_n 3, 1) := by decide +kernel
theorem dX2_settle_110 : decode cX2_settle 110 = .ok (.aload_n 0, 1) := by decide +kernel
theorem dX2_settle_111 : decode cX2_settle 111 = .ok (.getfield 93, 3) := by decide +kernel
theorem dX2_settle_114 : decode cX2_settle 114 = .ok (.if_icmp .ge 72, 3) := by decide +kernel
theorem dX2_settle_117 : decode cX2_settle 117 = .ok (.iload_n 2, 1) := by decide +kernel
theorem dX2_settle_118 : decode cX2_settle 118 = .ok (.iconst 1, 1) := by decide +kernel
theorem dX2_settle_119 : decode cX2_settle 119 = .ok (.iadd, 1) := by decide +kernel
theorem dX2_settle_120 : decode cX2_settle 120 = .ok (.iconst 4, 1) := by decide +kernel
theorem dX2_settle_121 : decode cX2_settle 121 = .ok (.iload_n 3, 1) := by decide +kernel
theorem dX2_settle_122 : decode cX2_settle 122 = .ok (.imul, 1) := by decide +kernel
theorem dX2_settle_123 : decode cX2_settle 123 = .ok (.iadd, 1) := by decide +kernel
theorem dX2_settle_124 : decode cX2_settle 124 = .ok (.istore 4, 2) := by decide +kernel
theorem dX2_settle_126 : decode cX2_settle 126 = .ok (.aload_n 0, 1) := by decide +kernel
theorem dX2_settle_127 : decode cX2_settle 127 = .ok (.getfield 40, 3) := by decide +kernel
theorem dX2_settle_130 : decode cX2_settle 130 = .ok (.iload_n 3, 1) := by decide +kernel
theorem dX2_settle_131 : decode cX2_settle 131 = .ok (.aload_n 1, 1) := by decide +kernel
theorem dX2_settle_132 : decode cX2_settle 132 = .ok (.iload 4, 2) := by decide +kernel
theorem dX2_settle_134 : decode cX2_settle 134 = .ok (.invokevirtual 96, 3) := by decide +kernel
theorem dX2_settle_137 : decode cX2_settle 137 = .ok (.iastore, 1) := by decide +kernel
theorem dX2_settle_138 : decode cX2_settle 138 = .ok (.aload_n 0, 1) := by decide +kernel
theorem dX2_settle_139 : decode cX2_settle 139 = .ok (.getfield 43, 3) := by decide +kernel
theorem dX2_settle_142 : decode cX2_settle 142 = .ok (.iload_n 3, 1) := by decide +kernel
theorem dX2_settle_143 : decode cX2_settle 143 = .ok (.aload_n 1, 1) := by decide +kernel
theorem dX2_settle_144 : decode cX2_settle 144 = .ok (.iload 4, 2) := by decide +kernel
theorem dX2_settle_146 : decode cX2_settle 146 = .ok (.iconst 1, 1) := by decide +kernel
theorem dX2_settle_147 : decode cX2_settle 147 = .ok (.iadd, 1) := by decide +kernel
theorem dX2_settle_148 : decode cX2_settle 148 = .ok (.invokevirtual 73, 3) := by decide +kernel
theorem dX2_settle_151 : decode cX2_settle 151 = .ok (.iastore, 1) := by decide +kernel
theorem dX2_settle_152 : decode cX2_settle 152 = .ok (.aload_n 0, 1) := by decide +kernel
theorem dX2_settle_153 : decode cX2_settle 153 = .ok (.getfield 46, 3) := by decide +kernel
theorem dX2_settle_156 : decode cX2_settle 156 = .ok (.iload_n 3, 1) := by decide +kernel
theorem dX2_settle_157 : decode cX2_settle 157 = .ok (.aload_n 1, 1) := by decide +kernel
theorem dX2_settle_158 : decode cX2_settle 158 = .ok (.iload 4, 2) := by decide +kernel
theorem dX2_settle_160 : decode cX2_settle 160 = .ok (.iconst 2, 1) := by decide +kernel
theorem dX2_settle_161 : decode cX2_settle 161 = .ok (.iadd, 1) := by decide +kernel
theorem dX2_settle_162 : decode cX2_settle 162 = .ok (.invokevirtual 73, 3) := by decide +kernel
theorem dX2_settle_165 : decode cX2_settle 165 = .ok (.iastore, 1) := by decide +kernel
theorem dX2_settle_166 : decode cX2_settle 166 = .ok (.aload_n 0, 1) := by decide +kernel
theorem dX2_settle_167 : decode cX2_settle 167 = .ok (.getfield 49, 3) := by decide +kernel
theorem dX2_settle_170 : decode cX2_settle 170 = .ok (.iload_n 3, 1) := by decide +kernel
theorem dX2_settle_171 : decode cX2_settle 171 = .ok (.iconst 0, 1) := by decide +kernel
theorem dX2_settle_172 : decode cX2_settle 172 = .ok (.iastore, 1) := by decide +kernel
theorem dX2_settle_173 : decode cX2_settle 173 = .ok (.aload_n 0, 1) := by decide +kernel
theorem dX2_settle_174 : decode cX2_settle 174 = .ok (.getfield 52, 3) := by decide +kernel
theorem dX2_settle_177 : decode cX2_settle 177 = .ok (.iload_n 3, 1) := by decide +kernel
theorem dX2_settle_178 : decode cX2_settle 178 = .ok (.iconst 0, 1) := by decide +kernel
theorem dX2_settle_179 : decode cX2_settle 179 = .ok (.iastore, 1) := by decide +kernel
theorem dX2_settle_180 : decode cX2_settle 180 = .ok (.iinc 3 1, 3) := by decide +kernel
theorem dX2_settle_183 : decode cX2_settle 183 = .ok (.goto (-74), 3) := by decide +kernel
theorem dX2_settle_186 : decode cX2_settle 186 = .ok (.aload_n 0, 1) := by decide +kernel
theorem dX2_settle_187 : decode cX2_settle 187 = .ok (.iconst 0, 1) := by decide +kernel
theorem dX2_settle_188 : decode cX2_settle 188 = .ok (.putfield 99, 3) := by decide +kernel
theorem dX2_settle_191 : decode cX2_settle 191 = .ok (.aload_n 0, 1) := by decide +kernel
theorem dX2_settle_192 : decode cX2_settle 192 = .ok (.iconst 0, 1) := by decide +kernel
theorem dX2_settle_193 : decode cX2_settle 193 = .ok (.putfield 102, 3) := by decide +kernel
theorem dX2_settle_196 : decode cX2_settle 196 = .ok (.return_, 1) := by decide +kernel
theorem dX2_copyFrom_0 : decode cX2_copyFrom 0 = .ok (.aload_n 0, 1) := by decide +kernel
theorem dX2_copyFrom_1 : decode cX2_copyFrom 1 = .ok (.aload_n 1, 1) := by decide +kernel
theorem dX2_copyFrom_2 : decode cX2_copyFrom 2 = .ok (.getfield 77, 3) := by decide +kernel
theorem dX2_copyFrom_5 : decode cX2_copyFrom 5 = .ok (.putfield 77, 3) := by decide +kernel
theorem dX2_copyFrom_8 : decode cX2_copyFrom 8 = .ok (.aload_n 0, 1) := by decide +kernel
theorem dX2_copyFrom_9 : decode cX2_copyFrom 9 = .ok (.aload_n 1, 1) := by decide +kernel
theorem dX2_copyFrom_10 : decode cX2_copyFrom 10 = .ok (.getfield 87, 3) := by decide +kernel
theorem dX2_copyFrom_13 : decode cX2_copyFrom 13 = .ok (.putfield 87, 3) := by decide +kernel
theorem dX2_copyFrom_16 : decode cX2_copyFrom 16 = .ok (.aload_n 0, 1) := by decide +kernel
theorem dX2_copyFrom_17 : decode cX2_copyFrom 17 = .ok (.aload_n 1, 1) := by decide +kernel
theorem dX2_copyFrom_18 : decode cX2_copyFrom 18 = .ok (.getfield 93, 3) := by decide +kernel
theorem dX2_copyFrom_21 : decode cX2_copyFrom 21 = .ok (.putfield 93, 3) := by decide +kernel
theorem dX2_copyFrom_24 : decode cX2_copyFrom 24 = .ok (.aload_n 0, 1) := by decide +kernel
theorem dX2_copyFrom_25 : decode cX2_copyFrom 25 = .ok (.aload_n 1, 1) := by decide +kernel
theorem dX2_copyFrom_26 : decode cX2_copyFrom 26 = .ok (.getfield 99, 3) := by decide +kernel
theorem dX2_copyFrom_29 : decode cX2_copyFrom 29 = .ok (.putfield 99, 3) := by decide +kernel
theorem dX2_copyFrom_32 : decode cX2_copyFrom 32 = .ok (.aload_n 0, 1) := by decide +kernel
theorem dX2_copyFrom_33 : decode cX2_copyFrom 33 = .ok (.aload_n 1, 1) := by decide +kernel
theorem dX2_copyFrom_34 : decode cX2_copyFrom 34 = .ok (.getfield 102, 3) := by decide +kernel
theorem dX2_copyFrom_37 : decode cX2_copyFrom 37 = .ok (.putfield 102, 3) := by decide +kernel
theorem dX2_copyFrom_40 : decode cX2_copyFrom 40 = .ok (.aload_n 1, 1) := by decide +kernel
theorem dX2_copyFrom_41 : decode cX2_copyFrom 41 = .ok (.getfield 30, 3) := by decide +kernel
theorem dX2_copyFrom_44 : decode cX2_copyFrom 44 = .ok (.iconst 0, 1) := by decide +kernel
theorem dX2_copyFrom_45 : decode cX2_copyFrom 45 = .ok (.aload_n 0, 1) := by decide +kernel
theorem dX2_copyFrom_46 : decode cX2_copyFrom 46 = .ok (.getfield 30, 3) := by decide +kernel
theorem dX2_copyFrom_49 : decode cX2_copyFrom 49 = .ok (.iconst 0, 1) := by decide +kernel
theorem dX2_copyFrom_50 : decode cX2_copyFrom 50 = .ok (.bipush 7, 2) := by decide +kernel
theorem dX2_copyFrom_52 : decode cX2_copyFrom 52 = .ok (.invokestatic 105, 3) := by decide +kernel
theorem dX2_copyFrom_55 : decode cX2_copyFrom 55 = .ok (.aload_n 1, 1) := by decide +kernel
theorem dX2_copyFrom_56 : decode cX2_copyFrom 56 = .ok (.getfield 34, 3) := by decide +kernel
theorem dX2_copyFrom_59 : decode cX2_copyFrom 59 = .ok (.iconst 0, 1) := by decide +kernel
theorem dX2_copyFrom_60 : decode cX2_copyFrom 60 = .ok (.aload_n 0, 1) := by decide +kernel
theorem dX2_copyFrom_61 : decode cX2_copyFrom 61 = .ok (.getfield 34, 3) := by decide +kernel
theorem dX2_copyFrom_64 : decode cX2_copyFrom 64 = .ok (.iconst 0, 1) := by decide +kernel
theorem dX2_copyFrom_65 : decode cX2_copyFrom 65 = .ok (.bipush 7, 2) := by decide +kernel
theorem dX2_copyFrom_67 : decode cX2_copyFrom 67 = .ok (.invokestatic 105, 3) := by decide +kernel
theorem dX2_copyFrom_70 : decode cX2_copyFrom 70 = .ok (.aload_n 1, 1) := by decide +kernel
theorem dX2_copyFrom_71 : decode cX2_copyFrom 71 = .ok (.getfield 37, 3) := by decide +kernel
theorem dX2_copyFrom_74 : decode cX2_copyFrom 74 = .ok (.iconst 0, 1) := by decide +kernel
theorem dX2_copyFrom_75 : decode cX2_copyFrom 75 = .ok (.aload_n 0, 1) := by decide +kernel
theorem dX2_copyFrom_76 : decode cX2_copyFrom 76 = .ok (.getfield 37, 3) := by decide +kernel
theorem dX2_copyFrom_79 : decode cX2_copyFrom 79 = .ok (.iconst 0, 1) := by decide +kernel
theorem dX2_copyFrom_80 : decode cX2_copyFrom 80 = .ok (.bipush 7, 2) := by decide +kernel
theorem dX2_copyFrom_82 : decode cX2_copyFrom 82 = .ok (.invokestatic 105, 3) := by decide +kernel
theorem dX2_copyFrom_85 : decode cX2_copyFrom 85 = .ok (.aload_n 1, 1) := by decide +kernel
theorem dX2_copyFrom_86 : decode cX2_copyFrom 86 = .ok (.getfield 40, 3) := by decide +kernel
theorem dX2_copyFrom_89 : decode cX2_copyFrom 89 = .ok (.iconst 0, 1) := by decide +kernel
theorem dX2_copyFrom_90 : decode cX2_copyFrom 90 = .ok (.aload_n 0, 1) := by decide +kernel
theorem dX2_copyFrom_91 : decode cX2_copyFrom 91 = .ok (.getfield 40, 3) := by decide +kernel
theorem dX2_copyFrom_94 : decode cX2_copyFrom 94 = .ok (.iconst 0, 1) := by decide +kernel
theorem dX2_copyFrom_95 : decode cX2_copyFrom 95 = .ok (.iconst 5, 1) := by decide +kernel
theorem dX2_copyFrom_96 : decode cX2_copyFrom 96 = .ok (.invokestatic 105, 3) := by decide +kernel
theorem dX2_copyFrom_99 : decode cX2_copyFrom 99 = .ok (.aload_n 1, 1) := by decide +kernel
theorem dX2_copyFrom_100 : decode cX2_copyFrom 100 = .ok (.getfield 43, 3) := by decide +kernel
theorem dX2_copyFrom_103 : decode cX2_copyFrom 103 = .ok (.iconst 0, 1) := by decide +kernel
theorem dX2_copyFrom_104 : decode cX2_copyFrom 104 = .ok (.aload_n 0, 1) := by decide +kernel
theorem dX2_copyFrom_105 : decode cX2_copyFrom 105 = .ok (.getfield 43, 3) := by decide +kernel
theorem dX2_copyFrom_108 : decode cX2_copyFrom 108 = .ok (.iconst 0, 1) := by decide +kernel
theorem dX2_copyFrom_109 : decode cX2_copyFrom 109 = .ok (.iconst 5, 1) := by decide +kernel
theorem dX2_copyFrom_110 : decode cX2_copyFrom 110 = .ok (.invokestatic 105, 3) := by decide +kernel
theorem dX2_copyFrom_113 : decode cX2_copyFrom 113 = .ok (.aload_n 1, 1) := by decide +kernel
theorem dX2_copyFrom_114 : decode cX2_copyFrom 114 = .ok (.getfield 46, 3) := by decide +kernel
theorem dX2_copyFrom_117 : decode cX2_copyFrom 117 = .ok (.iconst 0, 1) := by decide +kernel
theorem dX2_copyFrom_118 : decode cX2_copyFrom 118 = .ok (.aload_n 0, 1) := by decide +kernel
theorem dX2_copyFrom_119 : decode cX2_copyFrom 119 = .ok (.getfield 46, 3) := by decide +kernel
theorem dX2_copyFrom_122 : decode cX2_copyFrom 122 = .ok (.iconst 0, 1) := by decide +kernel
theorem dX2_copyFrom_123 : decode cX2_copyFrom 123 = .ok (.iconst 5, 1) := by decide +kernel
theorem dX2_copyFrom_124 : decode cX2_copyFrom 124 = .ok (.invokestatic 105, 3) := by decide +kernel
theorem dX2_copyFrom_127 : decode cX2_copyFrom 127 = .ok (.aload_n 1, 1) := by decide +kernel
theorem dX2_copyFrom_128 : decode cX2_copyFrom 128 = .ok (.getfield 49, 3) := by decide +kernel
theorem dX2_copyFrom_131 : decode cX2_copyFrom 131 = .ok (.iconst 0, 1) := by decide +kernel
theorem dX2_copyFrom_132 : decode cX2_copyFrom 132 = .ok (.aload_n 0, 1) := by decide +kernel
theorem dX2_copyFrom_133 : decode cX2_copyFrom 133 = .ok (.getfield 49, 3) := by decide +kernel
theorem dX2_copyFrom_136 : decode cX2_copyFrom 136 = .ok (.iconst 0, 1) := by decide +kernel
theorem dX2_copyFrom_137 : decode cX2_copyFrom 137 = .ok (.iconst 5, 1) := by decide +kernel
theorem dX2_copyFrom_138 : decode cX2_copyFrom 138 = .ok (.invokestatic 105, 3) := by decide +kernel
theorem dX2_copyFrom_141 : decode cX2_copyFrom 141 = .ok (.aload_n 1, 1) := by decide +kernel
theorem dX2_copyFrom_142 : decode cX2_copyFrom 142 = .ok (.getfield 52, 3) := by decide +kernel
theorem dX2_copyFrom_145 : decode cX2_copyFrom 145 = .ok (.iconst 0, 1) := by decide +kernel
theorem dX2_copyFrom_146 : decode cX2_copyFrom 146 = .ok (.aload_n 0, 1) := by decide +kernel
theorem dX2_copyFrom_147 : decode cX2_copyFrom 147 = .ok (.getfield 52, 3) := by decide +kernel
theorem dX2_copyFrom_150 : decode cX2_copyFrom 150 = .ok (.iconst 0, 1) := by decide +kernel
theorem dX2_copyFrom_151 : decode cX2_copyFrom 151 = .ok (.iconst 5, 1) := by decide +kernel
theorem dX2_copyFrom_152 : decode cX2_copyFrom 152 = .ok (.invokestatic 105, 3) := by decide +kernel
theorem dX2_copyFrom_155 : decode cX2_copyFrom 155 = .ok (.aload_n 1, 1) := by decide +kernel
theorem dX2_copyFrom_156 : decode cX2_copyFrom 156 = .ok (.getfield 55, 3) := by decide +kernel
theorem dX2_copyFrom_159 : decode cX2_copyFrom 159 = .ok (.iconst 0, 1) := by decide +kernel
theorem dX2_copyFrom_160 : decode cX2_copyFrom 160 = .ok (.aload_n 0, 1) := by decide +kernel
theorem dX2_copyFrom_161 : decode cX2_copyFrom 161 = .ok (.getfield 55, 3) := by decide +kernel
theorem dX2_copyFrom_164 : decode cX2_copyFrom 164 = .ok (.iconst 0, 1) := by decide +kernel
theorem dX2_copyFrom_165 : decode cX2_copyFrom 165 = .ok (.bipush 6, 2) := by decide +kernel
theorem dX2_copyFrom_167 : decode cX2_copyFrom 167 = .ok (.invokestatic 105, 3) := by decide +kernel
theorem dX2_copyFrom_170 : decode cX2_copyFrom 170 = .ok (.aload_n 1, 1) := by decide +kernel
theorem dX2_copyFrom_171 : decode cX2_copyFrom 171 = .ok (.getfield 58, 3) := by decide +kernel
theorem dX2_copyFrom_174 : decode cX2_copyFrom 174 = .ok (.iconst 0, 1) := by decide +kernel
theorem dX2_copyFrom_175 : decode cX2_copyFrom 175 = .ok (.aload_n 0, 1) := by decide +kernel
theorem dX2_copyFrom_176 : decode cX2_copyFrom 176 = .ok (.getfield 58, 3) := by decide +kernel
theorem dX2_copyFrom_179 : decode cX2_copyFrom 179 = .ok (.iconst 0, 1) := by decide +kernel
theorem dX2_copyFrom_180 : decode cX2_copyFrom 180 = .ok (.bipush 6, 2) := by decide +kernel
theorem dX2_copyFrom_182 : decode cX2_copyFrom 182 = .ok (.invokestatic 105, 3) := by decide +kernel
theorem dX2_copyFrom_185 : decode cX2_copyFrom 185 = .ok (.aload_n 1, 1) := by decide +kernel
theorem dX2_copyFrom_186 : decode cX2_copyFrom 186 = .ok (.getfield 61, 3) := by decide +kernel
theorem dX2_copyFrom_189 : decode cX2_copyFrom 189 = .ok (.iconst 0, 1) := by decide +kernel
theorem dX2_copyFrom_190 : decode cX2_copyFrom 190 = .ok (.aload_n 0, 1) := by decide +kernel
theorem dX2_copyFrom_191 : decode cX2_copyFrom 191 = .ok (.getfield 61, 3) := by decide +kernel
theorem dX2_copyFrom_194 : decode cX2_copyFrom 194 = .ok (.iconst 0, 1) := by decide +kernel
theorem dX2_copyFrom_195 : decode cX2_copyFrom 195 = .ok (.bipush 6, 2) := by decide +kernel
theorem dX2_copyFrom_197 : decode cX2_copyFrom 197 = .ok (.invokestatic 105, 3) := by decide +kernel
theorem dX2_copyFrom_200 : decode cX2_copyFrom 200 = .ok (.aload_n 1, 1) := by decide +kernel
theorem dX2_copyFrom_201 : decode cX2_copyFrom 201 = .ok (.getfield 64, 3) := by decide +kernel
theorem dX2_copyFrom_204 : decode cX2_copyFrom 204 = .ok (.iconst 0, 1) := by decide +kernel
theorem dX2_copyFrom_205 : decode cX2_copyFrom 205 = .ok (.aload_n 0, 1) := by decide +kernel
theorem dX2_copyFrom_206 : decode cX2_copyFrom 206 = .ok (.getfield 64, 3) := by decide +kernel
theorem dX2_copyFrom_209 : decode cX2_copyFrom 209 = .ok (.iconst 0, 1) := by decide +kernel
theorem dX2_copyFrom_210 : decode cX2_copyFrom 210 = .ok (.bipush 6, 2) := by decide +kernel
theorem dX2_copyFrom_212 : decode cX2_copyFrom 212 = .ok (.invokestatic 105, 3) := by decide +kernel
theorem dX2_copyFrom_215 : decode cX2_copyFrom 215 = .ok (.return_, 1) := by decide +kernel
theorem dX2_isThere_0 : decode cX2_isThere 0 = .ok (.aload_n 0, 1) := by decide +kernel
theorem dX2_isThere_1 : decode cX2_isThere 1 = .ok (.getfield 77, 3) := by decide +kernel
theorem dX2_isThere_4 : decode cX2_isThere 4 = .ok (.ifCond .le 7, 3) := by decide +kernel
theorem dX2_isThere_7 : decode cX2_isThere 7 = .ok (.iconst 1, 1) := by decide +kernel
theorem dX2_isThere_8 : decode cX2_isThere 8 = .ok (.goto 4, 3) := by decide +kernel
theorem dX2_isThere_11 : decode cX2_isThere 11 = .ok (.iconst 0, 1) := by decide +kernel
theorem dX2_isThere_12 : decode cX2_isThere 12 = .ok (.ireturn, 1) := by decide +kernel
theorem dX2_hasPerson_0 : decode cX2_hasPerson 0 = .ok (.iload_n 1, 1) := by decide +kernel
theorem dX2_hasPerson_1 : decode cX2_hasPerson 1 = .ok (.ifCond .lt 15, 3) := by decide +kernel
theorem dX2_hasPerson_4 : decode cX2_hasPerson 4 = .ok (.iload_n 1, 1) := by decide +kernel
theorem dX2_hasPerson_5 : decode cX2_hasPerson 5 = .ok (.aload_n 0, 1) := by decide +kernel
theorem dX2_hasPerson_6 : decode cX2_hasPerson 6 = .ok (.getfield 93, 3) := by decide +kernel
theorem dX2_hasPerson_9 : decode cX2_hasPerson 9 = .ok (.if_icmp .ge 7, 3) := by decide +kernel
theorem dX2_hasPerson_12 : decode cX2_hasPerson 12 = .ok (.iconst 1, 1) := by decide +kernel
theorem dX2_hasPerson_13 : decode cX2_hasPerson 13 = .ok (.goto 4, 3) := by decide +kernel
theorem dX2_hasPerson_16 : decode cX2_hasPerson 16 = .ok (.iconst 0, 1) := by decide +kernel
theorem dX2_hasPerson_17 : decode cX2_hasPerson 17 = .ok (.ireturn, 1) := by decide +kernel
theorem dX2_hasPassage_0 : decode cX2_hasPassage 0 = .ok (.iload_n 1, 1) := by decide +kernel
theorem dX2_hasPassage_1 : decode cX2_hasPassage 1 = .ok (.ifCond .lt 15, 3) := by decide +kernel
theorem dX2_hasPassage_4 : decode cX2_hasPassage 4 = .ok (.iload_n 1, 1) := by decide +kernel
theorem dX2_hasPassage_5 : decode cX2_hasPassage 5 = .ok (.aload_n 0, 1) := by decide +kernel
theorem dX2_hasPassage_6 : decode cX2_hasPassage 6 = .ok (.getfield 87, 3) := by decide +kernel
theorem dX2_hasPassage_9 : decode cX2_hasPassage 9 = .ok (.if_icmp .ge 7, 3) := by decide +kernel
theorem dX2_hasPassage_12 : decode cX2_hasPassage 12 = .ok (.iconst 1, 1) := by decide +kernel
theorem dX2_hasPassage_13 : decode cX2_hasPassage 13 = .ok (.goto 4, 3) := by decide +kernel
theorem dX2_hasPassage_16 : decode cX2_hasPassage 16 = .ok (.iconst 0, 1) := by decide +kernel
theorem dX2_hasPassage_17 : decode cX2_hasPassage 17 = .ok (.ireturn, 1) := by decide +kernel
theorem dX2_hasRoom_0 : decode cX2_hasRoom 0 = .ok (.iload_n 1, 1) := by decide +kernel
theorem dX2_hasRoom_1 : decode cX2_hasRoom 1 = .ok (.ifCond .lt 15, 3) := by decide +kernel
theorem dX2_hasRoom_4 : decode cX2_hasRoom 4 = .ok (.iload_n 1, 1) := by decide +kernel
theorem dX2_hasRoom_5 : decode cX2_hasRoom 5 = .ok (.aload_n 0, 1) := by decide +kernel
theorem dX2_hasRoom_6 : decode cX2_hasRoom 6 = .ok (.getfield 77, 3) := by decide +kernel
theorem dX2_hasRoom_9 : decode cX2_hasRoom 9 = .ok (.if_icmp .ge 7, 3) := by decide +kernel
theorem dX2_hasRoom_12 : decode cX2_hasRoom 12 = .ok (.iconst 1, 1) := by decide +kernel
theorem dX2_hasRoom_13 : decode cX2_hasRoom 13 = .ok (.goto 4, 3) := by decide +kernel
theorem dX2_hasRoom_16 : decode cX2_hasRoom 16 = .ok (.iconst 0, 1) := by decide +kernel
theorem dX2_hasRoom_17 : decode cX2_hasRoom 17 = .ok (.ireturn, 1) := by decide +kernel
set_option maxRecDepth 20000 in
theorem ggX2_knows_X2_hasPerson : GoodIn wsX2_knows wsX2_hasPerson := goodIn_r _ [5, 6, 12, 13, 14, 15, 16, 17, 18, 19, 20, 21, 22, 23, 24, 25, 26, 27, 28, 29] (by decide +kernel) (by decide +kernel)
set_option maxRecDepth 20000 in
theorem gX2_knows_X2_hasPerson : GoodIn wsX2_knows (wsV RX2 111 RX2 yX2_hasPerson wsX2_hasPerson) := goodIn_app (goodIn_of _ (by decide +kernel)) ggX2_knows_X2_hasPerson
set_option maxRecDepth 20000 in
theorem ggX2_knows_X2_hasPassage : GoodIn wsX2_knows wsX2_hasPassage := goodIn_r _ [10, 11, 12, 13, 14, 15, 16, 17, 18, 19, 20, 21, 22, 23, 24, 25, 26, 27, 28, 29] (by decide +kernel) (by decide +kernel)
set_option maxRecDepth 20000 in
theorem gX2_knows_X2_hasPassage : GoodIn wsX2_knows (wsV RX2 115 RX2 yX2_hasPassage wsX2_hasPassage) := goodIn_app (goodIn_of _ (by decide +kernel)) ggX2_knows_X2_hasPassage
theorem dX2_knows_0 : decode cX2_knows 0 = .ok (.aload_n 0, 1) := by decide +kernel
theorem dX2_knows_1 : decode cX2_knows 1 = .ok (.iload_n 1, 1) := by decide +kernel
theorem dX2_knows_2 : decode cX2_knows 2 = .ok (.invokevirtual 111, 3) := by decide +kernel
theorem dX2_knows_5 : decode cX2_knows 5 = .ok (.ifCond .eq 33, 3) := by decide +kernel
theorem dX2_knows_8 : decode cX2_knows 8 = .ok (.aload_n 0, 1) := by decide +kernel
theorem dX2_knows_9 : decode cX2_knows 9 = .ok (.iload_n 2, 1) := by decide +kernel
theorem dX2_knows_10 : decode cX2_knows 10 = .ok (.invokevirtual 115, 3) := by decide +kernel
theorem dX2_knows_13 : decode cX2_knows 13 = .ok (.ifCond .eq 25, 3) := by decide +kernel
theorem dX2_knows_16 : decode cX2_knows 16 = .ok (.iload_n 3, 1) := by decide +kernel
theorem dX2_knows_17 : decode cX2_knows 17 = .ok (.iconst (-1), 1) := by decide +kernel
theorem dX2_knows_18 : decode cX2_knows 18 = .ok (.if_icmp .eq 16, 3) := by decide +kernel
theorem dX2_knows_21 : decode cX2_knows 21 = .ok (.aload_n 0, 1) := by decide +kernel
theorem dX2_knows_22 : decode cX2_knows 22 = .ok (.iload_n 3, 1) := by decide +kernel
theorem dX2_knows_23 : decode cX2_knows 23 = .ok (.invokevirtual 111, 3) := by decide +kernel
theorem dX2_knows_26 : decode cX2_knows 26 = .ok (.ifCond .eq 12, 3) := by decide +kernel
theorem dX2_knows_29 : decode cX2_knows 29 = .ok (.iload_n 3, 1) := by decide +kernel
theorem dX2_knows_30 : decode cX2_knows 30 = .ok (.iload_n 1, 1) := by decide +kernel
theorem dX2_knows_31 : decode cX2_knows 31 = .ok (.if_icmp .eq 7, 3) := by decide +kernel
theorem dX2_knows_34 : decode cX2_knows 34 = .ok (.iconst 1, 1) := by decide +kernel
theorem dX2_knows_35 : decode cX2_knows 35 = .ok (.goto 4, 3) := by decide +kernel
theorem dX2_knows_38 : decode cX2_knows 38 = .ok (.iconst 0, 1) := by decide +kernel
theorem dX2_knows_39 : decode cX2_knows 39 = .ok (.ireturn, 1) := by decide +kernel
theorem dX2_clerk_0 : decode cX2_clerk 0 = .ok (.aload_n 0, 1) := by decide +kernel
theorem dX2_clerk_1 : decode cX2_clerk 1 = .ok (.getfield 24, 3) := by decide +kernel
theorem dX2_clerk_4 : decode cX2_clerk 4 = .ok (.aload_n 0, 1) := by decide +kernel
theorem dX2_clerk_5 : decode cX2_clerk 5 = .ok (.getfield 40, 3) := by decide +kernel
theorem dX2_clerk_8 : decode cX2_clerk 8 = .ok (.iload_n 1, 1) := by decide +kernel
theorem dX2_clerk_9 : decode cX2_clerk 9 = .ok (.iaload, 1) := by decide +kernel
theorem dX2_clerk_10 : decode cX2_clerk 10 = .ok (.aaload, 1) := by decide +kernel
theorem dX2_clerk_11 : decode cX2_clerk 11 = .ok (.areturn, 1) := by decide +kernel
set_option maxRecDepth 20000 in
theorem ggX2_aloneSteps_X2_clerk : GoodIn wsX2_aloneSteps wsX2_clerk := goodIn_r _ [8, 9, 10, 42, 43, 44, 45, 46, 47, 48, 49, 50, 51, 52, 53, 54, 55, 56, 57, 58, 59] (by decide +kernel) (by decide +kernel)
set_option maxRecDepth 20000 in
theorem gX2_aloneSteps_X2_clerk : GoodIn wsX2_aloneSteps (wsV RX2 118 RX2 yX2_clerk wsX2_clerk) := goodIn_app (goodIn_of _ (by decide +kernel)) ggX2_aloneSteps_X2_clerk
set_option maxRecDepth 20000 in
theorem ggX2_aloneSteps_X0_yards : GoodIn wsX2_aloneSteps wsX0_yards := goodIn_r _ [17, 18, 12, 19, 20, 21, 22] (by decide +kernel) (by decide +kernel)
set_option maxRecDepth 20000 in
theorem gX2_aloneSteps_X0_yards_u122X0 : GoodIn wsX2_aloneSteps (va_wsO RX2 122 RX0 "ShameYards$Clerk" ⟨"ShameYards$Clerk", "yards", "(III)I"⟩ yX0_yards wsX0_yards) := goodIn_app (goodIn_of _ (by decide +kernel)) ggX2_aloneSteps_X0_yards
set_option maxRecDepth 20000 in
theorem ggX2_aloneSteps_X1_yards : GoodIn wsX2_aloneSteps wsX1_yards := goodIn_r _ [22] (by decide +kernel) (by decide +kernel)
set_option maxRecDepth 20000 in
theorem gX2_aloneSteps_X1_yards : GoodIn wsX2_aloneSteps (wsV RX2 122 RX1 yX1_yards wsX1_yards) := goodIn_app (goodIn_of _ (by decide +kernel)) ggX2_aloneSteps_X1_yards
set_option maxRecDepth 20000 in
theorem ggX2_aloneSteps_X3_yards : GoodIn wsX2_aloneSteps wsX3_yards := goodIn_r _ [28, 29, 30, 31, 32, 33, 34] (by decide +kernel) (by decide +kernel)
set_option maxRecDepth 20000 in
theorem gX2_aloneSteps_X3_yards_u122X3 : GoodIn wsX2_aloneSteps (va_wsO RX2 122 RX3 "ShameYards$Clerk" ⟨"ShameYards$Clerk", "yards", "(III)I"⟩ yX3_yards wsX3_yards) := goodIn_app (goodIn_of _ (by decide +kernel)) ggX2_aloneSteps_X3_yards
set_option maxRecDepth 20000 in
theorem ggX2_aloneSteps_X4_yards : GoodIn wsX2_aloneSteps wsX4_yards := goodIn_r _ [34] (by decide +kernel) (by decide +kernel)
set_option maxRecDepth 20000 in
theorem gX2_aloneSteps_X4_yards_u122X4 : GoodIn wsX2_aloneSteps (va_wsO RX2 122 RX4 "ShameYards$Clerk" ⟨"ShameYards$Clerk", "yards", "(III)I"⟩ yX4_yards wsX4_yards) := goodIn_app (goodIn_of _ (by decide +kernel)) ggX2_aloneSteps_X4_yards
set_option maxRecDepth 20000 in
theorem ggX2_aloneSteps_X10_yards : GoodIn wsX2_aloneSteps wsX10_yards := goodIn_r _ [39, 40, 12, 41, 20, 21, 22] (by decide +kernel) (by decide +kernel)
set_option maxRecDepth 20000 in
theorem gX2_aloneSteps_X10_yards_u122X10 : GoodIn wsX2_aloneSteps (va_wsO RX2 122 RX10 "ShameYards$Clerk" ⟨"ShameYards$Clerk", "yards", "(III)I"⟩ yX10_yards wsX10_yards) := goodIn_app (goodIn_of _ (by decide +kernel)) ggX2_aloneSteps_X10_yards
theorem dX2_aloneSteps_0 : decode cX2_aloneSteps 0 = .ok (.aload_n 0, 1) := by decide +kernel
theorem dX2_aloneSteps_1 : decode cX2_aloneSteps 1 = .ok (.iload_n 1, 1) := by decide +kernel
theorem dX2_aloneSteps_2 : decode cX2_aloneSteps 2 = .ok (.invokevirtual 118, 3) := by decide +kernel
theorem dX2_aloneSteps_5 : decode cX2_aloneSteps 5 = .ok (.aload_n 0, 1) := by decide +kernel
theorem dX2_aloneSteps_6 : decode cX2_aloneSteps 6 = .ok (.getfield 37, 3) := by decide +kernel
theorem dX2_aloneSteps_9 : decode cX2_aloneSteps 9 = .ok (.iload_n 2, 1) := by decide +kernel
theorem dX2_aloneSteps_10 : decode cX2_aloneSteps 10 = .ok (.iaload, 1) := by decide +kernel
theorem dX2_aloneSteps_11 : decode cX2_aloneSteps 11 = .ok (.aload_n 0, 1) := by decide +kernel
theorem dX2_aloneSteps_12 : decode cX2_aloneSteps 12 = .ok (.getfield 43, 3) := by decide +kernel
theorem dX2_aloneSteps_15 : decode cX2_aloneSteps 15 = .ok (.iload_n 1, 1) := by decide +kernel
theorem dX2_aloneSteps_16 : decode cX2_aloneSteps 16 = .ok (.iaload, 1) := by decide +kernel
theorem dX2_aloneSteps_17 : decode cX2_aloneSteps 17 = .ok (.aload_n 0, 1) := by decide +kernel
theorem dX2_aloneSteps_18 : decode cX2_aloneSteps 18 = .ok (.getfield 46, 3) := by decide +kernel
theorem dX2_aloneSteps_21 : decode cX2_aloneSteps 21 = .ok (.iload_n 1, 1) := by decide +kernel
theorem dX2_aloneSteps_22 : decode cX2_aloneSteps 22 = .ok (.iaload, 1) := by decide +kernel
theorem dX2_aloneSteps_23 : decode cX2_aloneSteps 23 = .ok (.invokevirtual 122, 3) := by decide +kernel
theorem dX2_aloneSteps_26 : decode cX2_aloneSteps 26 = .ok (.ireturn, 1) := by decide +kernel
set_option maxRecDepth 20000 in
theorem ggX2_stepsWithLies_X2_clerk : GoodIn wsX2_stepsWithLies wsX2_clerk := goodIn_r _ [8, 9, 10, 42, 43, 44, 45, 46, 47, 48, 49, 50, 51, 52, 53, 54, 55, 56, 57, 58, 59] (by decide +kernel) (by decide +kernel)
set_option maxRecDepth 20000 in
theorem gX2_stepsWithLies_X2_clerk : GoodIn wsX2_stepsWithLies (wsV RX2 118 RX2 yX2_clerk wsX2_clerk) := goodIn_app (goodIn_of _ (by decide +kernel)) ggX2_stepsWithLies_X2_clerk
set_option maxRecDepth 20000 in
theorem ggX2_stepsWithLies_X0_yards : GoodIn wsX2_stepsWithLies wsX0_yards := goodIn_r _ [17, 18, 12, 19, 20, 21, 22] (by decide +kernel) (by decide +kernel)
set_option maxRecDepth 20000 in
theorem gX2_stepsWithLies_X0_yards_u122X0 : GoodIn wsX2_stepsWithLies (va_wsO RX2 122 RX0 "ShameYards$Clerk" ⟨"ShameYards$Clerk", "yards", "(III)I"⟩ yX0_yards wsX0_yards) := goodIn_app (goodIn_of _ (by decide +kernel)) ggX2_stepsWithLies_X0_yards
set_option maxRecDepth 20000 in
theorem ggX2_stepsWithLies_X1_yards : GoodIn wsX2_stepsWithLies wsX1_yards := goodIn_r _ [22] (by decide +kernel) (by decide +kernel)
set_option maxRecDepth 20000 in
theorem gX2_stepsWithLies_X1_yards : GoodIn wsX2_stepsWithLies (wsV RX2 122 RX1 yX1_yards wsX1_yards) := goodIn_app (goodIn_of _ (by decide +kernel)) ggX2_stepsWithLies_X1_yards
set_option maxRecDepth 20000 in
theorem ggX2_stepsWithLies_X3_yards : GoodIn wsX2_stepsWithLies wsX3_yards := goodIn_r _ [28, 29, 30, 31, 32, 33, 34] (by decide +kernel) (by decide +kernel)
set_option maxRecDepth 20000 in
theorem gX2_stepsWithLies_X3_yards_u122X3 : GoodIn wsX2_stepsWithLies (va_wsO RX2 122 RX3 "ShameYards$Clerk" ⟨"ShameYards$Clerk", "yards", "(III)I"⟩ yX3_yards wsX3_yards) := goodIn_app (goodIn_of _ (by decide +kernel)) ggX2_stepsWithLies_X3_yards
set_option maxRecDepth 20000 in
theorem ggX2_stepsWithLies_X4_yards : GoodIn wsX2_stepsWithLies wsX4_yards := goodIn_r _ [34] (by decide +kernel) (by decide +kernel)
set_option maxRecDepth 20000 in
theorem gX2_stepsWithLies_X4_yards_u122X4 : GoodIn wsX2_stepsWithLies (va_wsO RX2 122 RX4 "ShameYards$Clerk" ⟨"ShameYards$Clerk", "yards", "(III)I"⟩ yX4_yards wsX4_yards) := goodIn_app (goodIn_of _ (by decide +kernel)) ggX2_stepsWithLies_X4_yards
set_option maxRecDepth 20000 in
theorem ggX2_stepsWithLies_X10_yards : GoodIn wsX2_stepsWithLies wsX10_yards := goodIn_r _ [39, 40, 12, 41, 20, 21, 22] (by decide +kernel) (by decide +kernel)
set_option maxRecDepth 20000 in
theorem gX2_stepsWithLies_X10_yards_u122X10 : GoodIn wsX2_stepsWithLies (va_wsO RX2 122 RX10 "ShameYards$Clerk" ⟨"ShameYards$Clerk", "yards", "(III)I"⟩ yX10_yards wsX10_yards) := goodIn_app (goodIn_of _ (by decide +kernel)) ggX2_stepsWithLies_X10_yards
theorem dX2_stepsWithLies_0 : decode cX2_stepsWithLies 0 = .ok (.aload_n 0, 1) := by decide +kernel
theorem dX2_stepsWithLies_1 : decode cX2_stepsWithLies 1 = .ok (.getfield 37, 3) := by decide +kernel
theorem dX2_stepsWithLies_4 : decode cX2_stepsWithLies 4 = .ok (.iload_n 2, 1) := by decide +kernel
theorem dX2_stepsWithLies_5 : decode cX2_stepsWithLies 5 = .ok (.iaload, 1) := by decide +kernel
theorem dX2_stepsWithLies_6 : decode cX2_stepsWithLies 6 = .ok (.istore 5, 2) := by decide +kernel
theorem dX2_stepsWithLies_8 : decode cX2_stepsWithLies 8 = .ok (.aload_n 0, 1) := by decide +kernel
theorem dX2_stepsWithLies_9 : decode cX2_stepsWithLies 9 = .ok (.iload_n 1, 1) := by decide +kernel
theorem dX2_stepsWithLies_10 : decode cX2_stepsWithLies 10 = .ok (.invokevirtual 118, 3) := by decide +kernel
theorem dX2_stepsWithLies_13 : decode cX2_stepsWithLies 13 = .ok (.iload 5, 2) := by decide +kernel
theorem dX2_stepsWithLies_15 : decode cX2_stepsWithLies 15 = .ok (.aload_n 0, 1) := by decide +kernel
theorem dX2_stepsWithLies_16 : decode cX2_stepsWithLies 16 = .ok (.getfield 43, 3) := by decide +kernel
theorem dX2_stepsWithLies_19 : decode cX2_stepsWithLies 19 = .ok (.iload_n 1, 1) := by decide +kernel
theorem dX2_stepsWithLies_20 : decode cX2_stepsWithLies 20 = .ok (.iaload, 1) := by decide +kernel
theorem dX2_stepsWithLies_21 : decode cX2_stepsWithLies 21 = .ok (.iload 4, 2) := by decide +kernel
theorem dX2_stepsWithLies_23 : decode cX2_stepsWithLies 23 = .ok (.invokevirtual 122, 3) := by decide +kernel
theorem dX2_stepsWithLies_26 : decode cX2_stepsWithLies 26 = .ok (.istore 6, 2) := by decide +kernel
theorem dX2_stepsWithLies_28 : decode cX2_stepsWithLies 28 = .ok (.iload_n 3, 1) := by decide +kernel
theorem dX2_stepsWithLies_29 : decode cX2_stepsWithLies 29 = .ok (.iconst (-1), 1) := by decide +kernel
theorem dX2_stepsWithLies_30 : decode cX2_stepsWithLies 30 = .ok (.if_icmp .ne 6, 3) := by decide +kernel
theorem dX2_stepsWithLies_33 : decode cX2_stepsWithLies 33 = .ok (.iload 6, 2) := by decide +kernel
theorem dX2_stepsWithLies_35 : decode cX2_stepsWithLies 35 = .ok (.ireturn, 1) := by decide +kernel
theorem dX2_stepsWithLies_36 : decode cX2_stepsWithLies 36 = .ok (.iload 6, 2) := by decide +kernel
theorem dX2_stepsWithLies_38 : decode cX2_stepsWithLies 38 = .ok (.aload_n 0, 1) := by decide +kernel
theorem dX2_stepsWithLies_39 : decode cX2_stepsWithLies 39 = .ok (.iload_n 3, 1) := by decide +kernel
theorem dX2_stepsWithLies_40 : decode cX2_stepsWithLies 40 = .ok (.invokevirtual 118, 3) := by decide +kernel
theorem dX2_stepsWithLies_43 : decode cX2_stepsWithLies 43 = .ok (.iload 5, 2) := by decide +kernel
theorem dX2_stepsWithLies_45 : decode cX2_stepsWithLies 45 = .ok (.aload_n 0, 1) := by decide +kernel
theorem dX2_stepsWithLies_46 : decode cX2_stepsWithLies 46 = .ok (.getfield 43, 3) := by decide +kernel
theorem dX2_stepsWithLies_49 : decode cX2_stepsWithLies 49 = .ok (.iload_n 3, 1) := by decide +kernel
theorem dX2_stepsWithLies_50 : decode cX2_stepsWithLies 50 = .ok (.iaload, 1) := by decide +kernel
theorem dX2_stepsWithLies_51 : decode cX2_stepsWithLies 51 = .ok (.aload_n 0, 1) := by decide +kernel
theorem dX2_stepsWithLies_52 : decode cX2_stepsWithLies 52 = .ok (.getfield 46, 3) := by decide +kernel
theorem dX2_stepsWithLies_55 : decode cX2_stepsWithLies 55 = .ok (.iload_n 3, 1) := by decide +kernel
theorem dX2_stepsWithLies_56 : decode cX2_stepsWithLies 56 = .ok (.iaload, 1) := by decide +kernel
theorem dX2_stepsWithLies_57 : decode cX2_stepsWithLies 57 = .ok (.invokevirtual 122, 3) := by decide +kernel
theorem dX2_stepsWithLies_60 : decode cX2_stepsWithLies 60 = .ok (.iadd, 1) := by decide +kernel
theorem dX2_stepsWithLies_61 : decode cX2_stepsWithLies 61 = .ok (.iconst 1, 1) := by decide +kernel
theorem dX2_stepsWithLies_62 : decode cX2_stepsWithLies 62 = .ok (.iadd, 1) := by decide +kernel
theorem dX2_stepsWithLies_63 : decode cX2_stepsWithLies 63 = .ok (.iconst 2, 1) := by decide +kernel
theorem dX2_stepsWithLies_64 : decode cX2_stepsWithLies 64 = .ok (.idiv, 1) := by decide +kernel
theorem dX2_stepsWithLies_65 : decode cX2_stepsWithLies 65 = .ok (.ireturn, 1) := by decide +kernel
set_option maxRecDepth 20000 in
theorem ggX2_stepsOf_X2_stepsWithLies : GoodIn wsX2_stepsOf wsX2_stepsWithLies := goodIn_r _ [6, 7, 8, 1, 9, 10, 11, 5, 12, 13, 14, 15, 16, 17, 18, 19, 20, 21, 22, 23, 24, 25, 26, 27, 28, 29, 30, 31, 32, 33, 34, 35, 36, 37, 38, 39, 40, 41, 42, 43, 44, 45, 46, 47, 48, 49, 50, 51, 52, 53, 54, 55, 56, 57, 58, 59, 60, 61, 62, 63] (by decide +kernel) (by decide +kernel)
set_option maxRecDepth 20000 in
theorem gX2_stepsOf_X2_stepsWithLies : GoodIn wsX2_stepsOf (wsV RX2 126 RX2 yX2_stepsWithLies wsX2_stepsWithLies) := goodIn_app (goodIn_of _ (by decide +kernel)) ggX2_stepsOf_X2_stepsWithLies
theorem dX2_stepsOf_0 : decode cX2_stepsOf 0 = .ok (.aload_n 0, 1) := by decide +kernel
theorem dX2_stepsOf_1 : decode cX2_stepsOf 1 = .ok (.iload_n 1, 1) := by decide +kernel
theorem dX2_stepsOf_2 : decode cX2_stepsOf 2 = .ok (.iload_n 2, 1) := by decide +kernel
theorem dX2_stepsOf_3 : decode cX2_stepsOf 3 = .ok (.iload_n 3, 1) := by decide +kernel
theorem dX2_stepsOf_4 : decode cX2_stepsOf 4 = .ok (.aload_n 0, 1) := by decide +kernel
theorem dX2_stepsOf_5 : decode cX2_stepsOf 5 = .ok (.getfield 46, 3) := by decide +kernel
theorem dX2_stepsOf_8 : decode cX2_stepsOf 8 = .ok (.iload_n 1, 1) := by decide +kernel
theorem dX2_stepsOf_9 : decode cX2_stepsOf 9 = .ok (.iaload, 1) := by decide +kernel
theorem dX2_stepsOf_10 : decode cX2_stepsOf 10 = .ok (.invokevirtual 126, 3) := by decide +kernel
theorem dX2_stepsOf_13 : decode cX2_stepsOf 13 = .ok (.ireturn, 1) := by decide +kernel
theorem dX2_endsAt_0 : decode cX2_endsAt 0 = .ok (.aload_n 0, 1) := by decide +kernel
theorem dX2_endsAt_1 : decode cX2_endsAt 1 = .ok (.getfield 30, 3) := by decide +kernel
theorem dX2_endsAt_4 : decode cX2_endsAt 4 = .ok (.iload_n 1, 1) := by decide +kernel
theorem dX2_endsAt_5 : decode cX2_endsAt 5 = .ok (.iaload, 1) := by decide +kernel
theorem dX2_endsAt_6 : decode cX2_endsAt 6 = .ok (.iload_n 2, 1) := by decide +kernel
theorem dX2_endsAt_7 : decode cX2_endsAt 7 = .ok (.if_icmp .eq 13, 3) := by decide +kernel
theorem dX2_endsAt_10 : decode cX2_endsAt 10 = .ok (.aload_n 0, 1) := by decide +kernel
theorem dX2_endsAt_11 : decode cX2_endsAt 11 = .ok (.getfield 34, 3) := by decide +kernel
theorem dX2_endsAt_14 : decode cX2_endsAt 14 = .ok (.iload_n 1, 1) := by decide +kernel
theorem dX2_endsAt_15 : decode cX2_endsAt 15 = .ok (.iaload, 1) := by decide +kernel
theorem dX2_endsAt_16 : decode cX2_endsAt 16 = .ok (.iload_n 2, 1) := by decide +kernel
theorem dX2_endsAt_17 : decode cX2_endsAt 17 = .ok (.if_icmp .ne 7, 3) := by decide +kernel
theorem dX2_endsAt_20 : decode cX2_endsAt 20 = .ok (.iconst 1, 1) := by decide +kernel
theorem dX2_endsAt_21 : decode cX2_endsAt 21 = .ok (.goto 4, 3) := by decide +kernel
theorem dX2_endsAt_24 : decode cX2_endsAt 24 = .ok (.iconst 0, 1) := by decide +kernel
theorem dX2_endsAt_25 : decode cX2_endsAt 25 = .ok (.ireturn, 1) := by decide +kernel
theorem dX2_across_0 : decode cX2_across 0 = .ok (.aload_n 0, 1) := by decide +kernel
theorem dX2_across_1 : decode cX2_across 1 = .ok (.getfield 30, 3) := by decide +kernel
theorem dX2_across_4 : decode cX2_across 4 = .ok (.iload_n 1, 1) := by decide +kernel
theorem dX2_across_5 : decode cX2_across 5 = .ok (.iaload, 1) := by decide +kernel
theorem dX2_across_6 : decode cX2_across 6 = .ok (.iload_n 2, 1) := by decide +kernel
theorem dX2_across_7 : decode cX2_across 7 = .ok (.if_icmp .ne 12, 3) := by decide +kernel
theorem dX2_across_10 : decode cX2_across 10 = .ok (.aload_n 0, 1) := by decide +kernel
theorem dX2_across_11 : decode cX2_across 11 = .ok (.getfield 34, 3) := by decide +kernel
theorem dX2_across_14 : decode cX2_across 14 = .ok (.iload_n 1, 1) := by decide +kernel
theorem dX2_across_15 : decode cX2_across 15 = .ok (.iaload, 1) := by decide +kernel
theorem dX2_across_16 : decode cX2_across 16 = .ok (.goto 9, 3) := by decide +kernel
theorem dX2_across_19 : decode cX2_across 19 = .ok (.aload_n 0, 1) := by decide +kernel
theorem dX2_across_20 : decode cX2_across 20 = .ok (.getfield 30, 3) := by decide +kernel
theorem dX2_across_23 : decode cX2_across 23 = .ok (.iload_n 1, 1) := by decide +kernel
theorem dX2_across_24 : decode cX2_across 24 = .ok (.iaload, 1) := by decide +kernel
theorem dX2_across_25 : decode cX2_across 25 = .ok (.ireturn, 1) := by decide +kernel
set_option maxRecDepth 20000 in
theorem ggX2_doorsOf_X2_endsAt : GoodIn wsX2_doorsOf wsX2_endsAt := goodIn_r _ [6, 7, 8, 9, 10, 11, 12, 13, 14, 15, 16, 17, 18, 19, 20, 21, 22, 23, 24, 25, 26] (by decide +kernel) (by decide +kernel)
set_option maxRecDepth 20000 in
theorem gX2_doorsOf_X2_endsAt : GoodIn wsX2_doorsOf (wsV RX2 130 RX2 yX2_endsAt wsX2_endsAt) := goodIn_app (goodIn_of _ (by decide +kernel)) ggX2_doorsOf_X2_endsAt
theorem dX2_doorsOf_0 : decode cX2_doorsOf 0 = .ok (.iconst 0, 1) := by decide +kernel
theorem dX2_doorsOf_1 : decode cX2_doorsOf 1 = .ok (.istore_n 2, 1) := by decide +kernel
theorem dX2_doorsOf_2 : decode cX2_doorsOf 2 = .ok (.iconst 0, 1) := by decide +kernel
theorem dX2_doorsOf_3 : decode cX2_doorsOf 3 = .ok (.istore_n 3, 1) := by decide +kernel
theorem dX2_doorsOf_4 : decode cX2_doorsOf 4 = .ok (.iload_n 3, 1) := by decide +kernel
theorem dX2_doorsOf_5 : decode cX2_doorsOf 5 = .ok (.aload_n 0, 1) := by decide +kernel
theorem dX2_doorsOf_6 : decode cX2_doorsOf 6 = .ok (.getfield 87, 3) := by decide +kernel
theorem dX2_doorsOf_9 : decode cX2_doorsOf 9 = .ok (.if_icmp .ge 21, 3) := by decide +kernel
theorem dX2_doorsOf_12 : decode cX2_doorsOf 12 = .ok (.aload_n 0, 1) := by decide +kernel
theorem dX2_doorsOf_13 : decode cX2_doorsOf 13 = .ok (.iload_n 3, 1) := by decide +kernel
theorem dX2_doorsOf_14 : decode cX2_doorsOf 14 = .ok (.iload_n 1, 1) := by decide +kernel
theorem dX2_doorsOf_15 : decode cX2_doorsOf 15 = .ok (.invokevirtual 130, 3) := by decide +kernel
theorem dX2_doorsOf_18 : decode cX2_doorsOf 18 = .ok (.ifCond .eq 6, 3) := by decide +kernel
theorem dX2_doorsOf_21 : decode cX2_doorsOf 21 = .ok (.iinc 2 1, 3) := by decide +kernel
theorem dX2_doorsOf_24 : decode cX2_doorsOf 24 = .ok (.iinc 3 1, 3) := by decide +kernel
theorem dX2_doorsOf_27 : decode cX2_doorsOf 27 = .ok (.goto (-23), 3) := by decide +kernel
theorem dX2_doorsOf_30 : decode cX2_doorsOf 30 = .ok (.iload_n 2, 1) := by decide +kernel
theorem dX2_doorsOf_31 : decode cX2_doorsOf 31 = .ok (.ireturn, 1) := by decide +kernel
set_option maxRecDepth 20000 in
theorem ggX2_doorOf_X2_endsAt : GoodIn wsX2_doorOf wsX2_endsAt := goodIn_r _ [6, 7, 8, 9, 10, 11, 12, 13, 14, 15, 16, 17, 18, 19, 20, 21, 22, 23, 24, 25, 26] (by decide +kernel) (by decide +kernel)
set_option maxRecDepth 20000 in
theorem gX2_doorOf_X2_endsAt : GoodIn wsX2_doorOf (wsV RX2 130 RX2 yX2_endsAt wsX2_endsAt) := goodIn_app (goodIn_of _ (by decide +kernel)) ggX2_doorOf_X2_endsAt
theorem dX2_doorOf_0 : decode cX2_doorOf 0 = .ok (.iload_n 2, 1) := by decide +kernel
theorem dX2_doorOf_1 : decode cX2_doorOf 1 = .ok (.istore_n 3, 1) := by decide +kernel
theorem dX2_doorOf_2 : decode cX2_doorOf 2 = .ok (.iconst 0, 1) := by decide +kernel
theorem dX2_doorOf_3 : decode cX2_doorOf 3 = .ok (.istore 4, 2) := by decide +kernel
theorem dX2_doorOf_5 : decode cX2_doorOf 5 = .ok (.iload 4, 2) := by decide +kernel
theorem dX2_doorOf_7 : decode cX2_doorOf 7 = .ok (.aload_n 0, 1) := by decide +kernel
theorem dX2_doorOf_8 : decode cX2_doorOf 8 = .ok (.getfield 87, 3) := by decide +kernel
theorem dX2_doorOf_11 : decode cX2_doorOf 11 = .ok (.if_icmp .ge 29, 3) := by decide +kernel
theorem dX2_doorOf_14 : decode cX2_doorOf 14 = .ok (.aload_n 0, 1) := by decide +kernel
theorem dX2_doorOf_15 : decode cX2_doorOf 15 = .ok (.iload 4, 2) := by decide +kernel
theorem dX2_doorOf_17 : decode cX2_doorOf 17 = .ok (.iload_n 1, 1) := by decide +kernel
theorem dX2_doorOf_18 : decode cX2_doorOf 18 = .ok (.invokevirtual 130, 3) := by decide +kernel
theorem dX2_doorOf_21 : decode cX2_doorOf 21 = .ok (.ifCond .eq 13, 3) := by decide +kernel
theorem dX2_doorOf_24 : decode cX2_doorOf 24 = .ok (.iload_n 3, 1) := by decide +kernel
theorem dX2_doorOf_25 : decode cX2_doorOf 25 = .ok (.ifCond .ne 6, 3) := by decide +kernel
theorem dX2_doorOf_28 : decode cX2_doorOf 28 = .ok (.iload 4, 2) := by decide +kernel
theorem dX2_doorOf_30 : decode cX2_doorOf 30 = .ok (.ireturn, 1) := by decide +kernel
theorem dX2_doorOf_31 : decode cX2_doorOf 31 = .ok (.iinc 3 (-1), 3) := by decide +kernel
theorem dX2_doorOf_34 : decode cX2_doorOf 34 = .ok (.iinc 4 1, 3) := by decide +kernel
theorem dX2_doorOf_37 : decode cX2_doorOf 37 = .ok (.goto (-32), 3) := by decide +kernel
theorem dX2_doorOf_40 : decode cX2_doorOf 40 = .ok (.iconst (-1), 1) := by decide +kernel
theorem dX2_doorOf_41 : decode cX2_doorOf 41 = .ok (.ireturn, 1) := by decide +kernel
set_option maxRecDepth 20000 in
theorem ggX2_mayLeaveBy_X2_endsAt : GoodIn wsX2_mayLeaveBy wsX2_endsAt := goodIn_r _ [6, 7, 8, 9, 10, 11, 12, 13, 14, 15, 16, 17, 18, 19, 20, 21, 22, 23, 24, 25, 26] (by decide +kernel) (by decide +kernel)
set_option maxRecDepth 20000 in
theorem gX2_mayLeaveBy_X2_endsAt : GoodIn wsX2_mayLeaveBy (wsV RX2 130 RX2 yX2_endsAt wsX2_endsAt) := goodIn_app (goodIn_of _ (by decide +kernel)) ggX2_mayLeaveBy_X2_endsAt
theorem dX2_mayLeaveBy_0 : decode cX2_mayLeaveBy 0 = .ok (.aload_n 0, 1) := by decide +kernel
theorem dX2_mayLeaveBy_1 : decode cX2_mayLeaveBy 1 = .ok (.iload_n 2, 1) := by decide +kernel
theorem dX2_mayLeaveBy_2 : decode cX2_mayLeaveBy 2 = .ok (.aload_n 0, 1) := by decide +kernel
theorem dX2_mayLeaveBy_3 : decode cX2_mayLeaveBy 3 = .ok (.getfield 49, 3) := by decide +kernel
theorem dX2_mayLeaveBy_6 : decode cX2_mayLeaveBy 6 = .ok (.iload_n 1, 1) := by decide +kernel
theorem dX2_mayLeaveBy_7 : decode cX2_mayLeaveBy 7 = .ok (.iaload, 1) := by decide +kernel
theorem dX2_mayLeaveBy_8 : decode cX2_mayLeaveBy 8 = .ok (.invokevirtual 130, 3) := by decide +kernel
theorem dX2_mayLeaveBy_11 : decode cX2_mayLeaveBy 11 = .ok (.ifCond .eq 27, 3) := by decide +kernel
theorem dX2_mayLeaveBy_14 : decode cX2_mayLeaveBy 14 = .ok (.iload_n 3, 1) := by decide +kernel
theorem dX2_mayLeaveBy_15 : decode cX2_mayLeaveBy 15 = .ok (.iconst (-1), 1) := by decide +kernel
theorem dX2_mayLeaveBy_16 : decode cX2_mayLeaveBy 16 = .ok (.if_icmp .eq 18, 3) := by decide +kernel
theorem dX2_mayLeaveBy_19 : decode cX2_mayLeaveBy 19 = .ok (.aload_n 0, 1) := by decide +kernel
theorem dX2_mayLeaveBy_20 : decode cX2_mayLeaveBy 20 = .ok (.getfield 49, 3) := by decide +kernel
theorem dX2_mayLeaveBy_23 : decode cX2_mayLeaveBy 23 = .ok (.iload_n 3, 1) := by decide +kernel
theorem dX2_mayLeaveBy_24 : decode cX2_mayLeaveBy 24 = .ok (.iaload, 1) := by decide +kernel
theorem dX2_mayLeaveBy_25 : decode cX2_mayLeaveBy 25 = .ok (.aload_n 0, 1) := by decide +kernel
theorem dX2_mayLeaveBy_26 : decode cX2_mayLeaveBy 26 = .ok (.getfield 49, 3) := by decide +kernel
theorem dX2_mayLeaveBy_29 : decode cX2_mayLeaveBy 29 = .ok (.iload_n 1, 1) := by decide +kernel
theorem dX2_mayLeaveBy_30 : decode cX2_mayLeaveBy 30 = .ok (.iaload, 1) := by decide +kernel
theorem dX2_mayLeaveBy_31 : decode cX2_mayLeaveBy 31 = .ok (.if_icmp .ne 7, 3) := by decide +kernel
theorem dX2_mayLeaveBy_34 : decode cX2_mayLeaveBy 34 = .ok (.iconst 1, 1) := by decide +kernel
theorem dX2_mayLeaveBy_35 : decode cX2_mayLeaveBy 35 = .ok (.goto 4, 3) := by decide +kernel
theorem dX2_mayLeaveBy_38 : decode cX2_mayLeaveBy 38 = .ok (.iconst 0, 1) := by decide +kernel
theorem dX2_mayLeaveBy_39 : decode cX2_mayLeaveBy 39 = .ok (.ireturn, 1) := by decide +kernel
set_option maxRecDepth 20000 in
theorem ggX2_walk_X2_stepsWithLies : GoodIn wsX2_walk wsX2_stepsWithLies := goodIn_r _ [9, 10, 11, 1, 12, 13, 14, 8, 15, 16, 17, 18, 19, 20, 21, 22, 23, 24, 25, 26, 27, 28, 29, 30, 31, 32, 33, 34, 35, 36, 37, 38, 39, 40, 41, 42, 43, 44, 45, 46, 47, 48, 55, 56, 57, 58, 59, 60, 61, 62, 63, 64, 65, 66, 67, 68, 69, 70, 71, 72] (by decide +kernel) (by decide +kernel)
set_option maxRecDepth 20000 in
theorem gX2_walk_X2_stepsWithLies : GoodIn wsX2_walk (wsV RX2 126 RX2 yX2_stepsWithLies wsX2_stepsWithLies) := goodIn_app (goodIn_of _ (by decide +kernel)) ggX2_walk_X2_stepsWithLies
set_option maxRecDepth 20000 in
theorem ggX2_walk_X2_across : GoodIn wsX2_walk wsX2_across := goodIn_r _ [52, 53, 54, 55, 56, 57, 58, 59, 60, 61, 62, 63, 64, 65, 66, 67, 68, 69, 70, 71, 72] (by decide +kernel) (by decide +kernel)
set_option maxRecDepth 20000 in
theorem gX2_walk_X2_across : GoodIn wsX2_walk (wsV RX2 134 RX2 yX2_across wsX2_across) := goodIn_app (goodIn_of _ (by decide +kernel)) ggX2_walk_X2_across
theorem dX2_walk_0 : decode cX2_walk 0 = .ok (.aload_n 0, 1) := by decide +kernel
theorem dX2_walk_1 : decode cX2_walk 1 = .ok (.iload_n 1, 1) := by decide +kernel
theorem dX2_walk_2 : decode cX2_walk 2 = .ok (.iload_n 2, 1) := by decide +kernel
theorem dX2_walk_3 : decode cX2_walk 3 = .ok (.iload_n 3, 1) := by decide +kernel
theorem dX2_walk_4 : decode cX2_walk 4 = .ok (.aload_n 0, 1) := by decide +kernel
theorem dX2_walk_5 : decode cX2_walk 5 = .ok (.getfield 46, 3) := by decide +kernel
theorem dX2_walk_8 : decode cX2_walk 8 = .ok (.iload_n 1, 1) := by decide +kernel
theorem dX2_walk_9 : decode cX2_walk 9 = .ok (.iaload, 1) := by decide +kernel
theorem dX2_walk_10 : decode cX2_walk 10 = .ok (.invokevirtual 126, 3) := by decide +kernel
theorem dX2_walk_13 : decode cX2_walk 13 = .ok (.istore 4, 2) := by decide +kernel
theorem dX2_walk_15 : decode cX2_walk 15 = .ok (.aload_n 0, 1) := by decide +kernel
theorem dX2_walk_16 : decode cX2_walk 16 = .ok (.iload_n 2, 1) := by decide +kernel
theorem dX2_walk_17 : decode cX2_walk 17 = .ok (.aload_n 0, 1) := by decide +kernel
theorem dX2_walk_18 : decode cX2_walk 18 = .ok (.getfield 49, 3) := by decide +kernel
theorem dX2_walk_21 : decode cX2_walk 21 = .ok (.iload_n 1, 1) := by decide +kernel
theorem dX2_walk_22 : decode cX2_walk 22 = .ok (.iaload, 1) := by decide +kernel
theorem dX2_walk_23 : decode cX2_walk 23 = .ok (.invokevirtual 134, 3) := by decide +kernel
theorem dX2_walk_26 : decode cX2_walk 26 = .ok (.istore 5, 2) := by decide +kernel
theorem dX2_walk_28 : decode cX2_walk 28 = .ok (.aload_n 0, 1) := by decide +kernel
theorem dX2_walk_29 : decode cX2_walk 29 = .ok (.getfield 49, 3) := by decide +kernel
theorem dX2_walk_32 : decode cX2_walk 32 = .ok (.iload_n 1, 1) := by decide +kernel
theorem dX2_walk_33 : decode cX2_walk 33 = .ok (.iload 5, 2) := by decide +kernel
theorem dX2_walk_35 : decode cX2_walk 35 = .ok (.iastore, 1) := by decide +kernel
theorem dX2_walk_36 : decode cX2_walk 36 = .ok (.aload_n 0, 1) := by decide +kernel
theorem dX2_walk_37 : decode cX2_walk 37 = .ok (.getfield 52, 3) := by decide +kernel
theorem dX2_walk_40 : decode cX2_walk 40 = .ok (.iload_n 1, 1) := by decide +kernel
theorem dX2_walk_41 : decode cX2_walk 41 = .ok (.dup2, 1) := by decide +kernel
theorem dX2_walk_42 : decode cX2_walk 42 = .ok (.iaload, 1) := by decide +kernel
theorem dX2_walk_43 : decode cX2_walk 43 = .ok (.iload 4, 2) := by decide +kernel
theorem dX2_walk_45 : decode cX2_walk 45 = .ok (.iadd, 1) := by decide +kernel
theorem dX2_walk_46 : decode cX2_walk 46 = .ok (.iastore, 1) := by decide +kernel
theorem dX2_walk_47 : decode cX2_walk 47 = .ok (.iload_n 3, 1) := by decide +kernel
theorem dX2_walk_48 : decode cX2_walk 48 = .ok (.iconst (-1), 1) := by decide +kernel
theorem dX2_walk_49 : decode cX2_walk 49 = .ok (.if_icmp .eq 32, 3) := by decide +kernel
theorem dX2_walk_52 : decode cX2_walk 52 = .ok (.aload_n 0, 1) := by decide +kernel
theorem dX2_walk_53 : decode cX2_walk 53 = .ok (.getfield 49, 3) := by decide +kernel
theorem dX2_walk_56 : decode cX2_walk 56 = .ok (.iload_n 3, 1) := by decide +kernel
theorem dX2_walk_57 : decode cX2_walk 57 = .ok (.iload 5, 2) := by decide +kernel
theorem dX2_walk_59 : decode cX2_walk 59 = .ok (.iastore, 1) := by decide +kernel
theorem dX2_walk_60 : decode cX2_walk 60 = .ok (.aload_n 0, 1) := by decide +kernel
theorem dX2_walk_61 : decode cX2_walk 61 = .ok (.getfield 52, 3) := by decide +kernel
theorem dX2_walk_64 : decode cX2_walk 64 = .ok (.iload_n 3, 1) := by decide +kernel
theorem dX2_walk_65 : decode cX2_walk 65 = .ok (.dup2, 1) := by decide +kernel
theorem dX2_walk_66 : decode cX2_walk 66 = .ok (.iaload, 1) := by decide +kernel
theorem dX2_walk_67 : decode cX2_walk 67 = .ok (.iload 4, 2) := by decide +kernel
theorem dX2_walk_69 : decode cX2_walk 69 = .ok (.iadd, 1) := by decide +kernel
theorem dX2_walk_70 : decode cX2_walk 70 = .ok (.iastore, 1) := by decide +kernel
theorem dX2_walk_71 : decode cX2_walk 71 = .ok (.aload_n 0, 1) := by decide +kernel
theorem dX2_walk_72 : decode cX2_walk 72 = .ok (.dup, 1) := by decide +kernel
theorem dX2_walk_73 : decode cX2_walk 73 = .ok (.getfield 99, 3) := by decide +kernel
theorem dX2_walk_76 : decode cX2_walk 76 = .ok (.iconst 1, 1) := by decide +kernel
theorem dX2_walk_77 : decode cX2_walk 77 = .ok (.iadd, 1) := by decide +kernel
theorem dX2_walk_78 : decode cX2_walk 78 = .ok (.putfield 99, 3) := by decide +kernel
theorem dX2_walk_81 : decode cX2_walk 81 = .ok (.iload 4, 2) := by decide +kernel
theorem dX2_walk_83 : decode cX2_walk 83 = .ok (.ireturn, 1) := by decide +kernel
theorem dX2_note_0 : decode cX2_note 0 = .ok (.aload_n 0, 1) := by decide +kernel
theorem dX2_note_1 : decode cX2_note 1 = .ok (.getfield 102, 3) := by decide +kernel
theorem dX2_note_4 : decode cX2_note 4 = .ok (.bipush 6, 2) := by decide +kernel
theorem dX2_note_6 : decode cX2_note 6 = .ok (.if_icmp .ge 54, 3) := by decide +kernel
theorem dX2_note_9 : decode cX2_note 9 = .ok (.aload_n 0, 1) := by decide +kernel
theorem dX2_note_10 : decode cX2_note 10 = .ok (.getfield 55, 3) := by decide +kernel
theorem dX2_note_13 : decode cX2_note 13 = .ok (.aload_n 0, 1) := by decide +kernel
theorem dX2_note_14 : decode cX2_note 14 = .ok (.getfield 102, 3) := by decide +kernel
theorem dX2_note_17 : decode cX2_note 17 = .ok (.iload_n 1, 1) := by decide +kernel
theorem dX2_note_18 : decode cX2_note 18 = .ok (.iastore, 1) := by decide +kernel
theorem dX2_note_19 : decode cX2_note 19 = .ok (.aload_n 0, 1) := by decide +kernel
theorem dX2_note_20 : decode cX2_note 20 = .ok (.getfield 58, 3) := by decide +kernel
theorem dX2_note_23 : decode cX2_note 23 = .ok (.aload_n 0, 1) := by decide +kernel
theorem dX2_note_24 : decode cX2_note 24 = .ok (.getfield 102, 3) := by decide +kernel
theorem dX2_note_27 : decode cX2_note 27 = .ok (.iload_n 2, 1) := by decide +kernel
theorem dX2_note_28 : decode cX2_note 28 = .ok (.iastore, 1) := by decide +kernel
theorem dX2_note_29 : decode cX2_note 29 = .ok (.aload_n 0, 1) := by decide +kernel
theorem dX2_note_30 : decode cX2_note 30 = .ok (.getfield 61, 3) := by decide +kernel
theorem dX2_note_33 : decode cX2_note 33 = .ok (.aload_n 0, 1) := by decide +kernel
theorem dX2_note_34 : decode cX2_note 34 = .ok (.getfield 102, 3) := by decide +kernel
theorem dX2_note_37 : decode cX2_note 37 = .ok (.iload_n 3, 1) := by decide +kernel
theorem dX2_note_38 : decode cX2_note 38 = .ok (.iastore, 1) := by decide +kernel
theorem dX2_note_39 : decode cX2_note 39 = .ok (.aload_n 0, 1) := by decide +kernel
theorem dX2_note_40 : decode cX2_note 40 = .ok (.getfield 64, 3) := by decide +kernel
theorem dX2_note_43 : decode cX2_note 43 = .ok (.aload_n 0, 1) := by decide +kernel
theorem dX2_note_44 : decode cX2_note 44 = .ok (.getfield 102, 3) := by decide +kernel
theorem dX2_note_47 : decode cX2_note 47 = .ok (.iload 4, 2) := by decide +kernel
theorem dX2_note_49 : decode cX2_note 49 = .ok (.iastore, 1) := by decide +kernel
theorem dX2_note_50 : decode cX2_note 50 = .ok (.aload_n 0, 1) := by decide +kernel
theorem dX2_note_51 : decode cX2_note 51 = .ok (.dup, 1) := by decide +kernel
theorem dX2_note_52 : decode cX2_note 52 = .ok (.getfield 102, 3) := by decide +kernel
theorem dX2_note_55 : decode cX2_note 55 = .ok (.iconst 1, 1) := by decide +kernel
theorem dX2_note_56 : decode cX2_note 56 = .ok (.iadd, 1) := by decide +kernel
theorem dX2_note_57 : decode cX2_note 57 = .ok (.putfield 102, 3) := by decide +kernel
theorem dX2_note_60 : decode cX2_note 60 = .ok (.return_, 1) := by decide +kernel
theorem dX2_sumOfPeople_0 : decode cX2_sumOfPeople 0 = .ok (.iconst 0, 1) := by decide +kernel
theorem dX2_sumOfPeople_1 : decode cX2_sumOfPeople 1 = .ok (.istore_n 2, 1) := by decide +kernel
theorem dX2_sumOfPeople_2 : decode cX2_sumOfPeople 2 = .ok (.iconst 0, 1) := by decide +kernel
theorem dX2_sumOfPeople_3 : decode cX2_sumOfPeople 3 = .ok (.istore_n 3, 1) := by decide +kernel
theorem dX2_sumOfPeople_4 : decode cX2_sumOfPeople 4 = .ok (.iload_n 3, 1) := by decide +kernel
theorem dX2_sumOfPeople_5 : decode cX2_sumOfPeople 5 = .ok (.aload_n 0, 1) := by decide +kernel
theorem dX2_sumOfPeople_6 : decode cX2_sumOfPeople 6 = .ok (.getfield 93, 3) := by decide +kernel
theorem dX2_sumOfPeople_9 : decode cX2_sumOfPeople 9 = .ok (.if_icmp .ge 15, 3) := by decide +kernel
theorem dX2_sumOfPeople_12 : decode cX2_sumOfPeople 12 = .ok (.iload_n 2, 1) := by decide +kernel
theorem dX2_sumOfPeople_13 : decode cX2_sumOfPeople 13 = .ok (.aload_n 1, 1) := by decide +kernel
theorem dX2_sumOfPeople_14 : decode cX2_sumOfPeople 14 = .ok (.iload_n 3, 1) := by decide +kernel
theorem dX2_sumOfPeople_15 : decode cX2_sumOfPeople 15 = .ok (.iaload, 1) := by decide +kernel
theorem dX2_sumOfPeople_16 : decode cX2_sumOfPeople 16 = .ok (.iadd, 1) := by decide +kernel
theorem dX2_sumOfPeople_17 : decode cX2_sumOfPeople 17 = .ok (.istore_n 2, 1) := by decide +kernel
theorem dX2_sumOfPeople_18 : decode cX2_sumOfPeople 18 = .ok (.iinc 3 1, 3) := by decide +kernel
theorem dX2_sumOfPeople_21 : decode cX2_sumOfPeople 21 = .ok (.goto (-17), 3) := by decide +kernel
theorem dX2_sumOfPeople_24 : decode cX2_sumOfPeople 24 = .ok (.iload_n 2, 1) := by decide +kernel
theorem dX2_sumOfPeople_25 : decode cX2_sumOfPeople 25 = .ok (.ireturn, 1) := by decide +kernel
theorem dX2_peopleInRoomZero_0 : decode cX2_peopleInRoomZero 0 = .ok (.iconst 0, 1) := by decide +kernel
theorem dX2_peopleInRoomZero_1 : decode cX2_peopleInRoomZero 1 = .ok (.istore_n 1, 1) := by decide +kernel
theorem dX2_peopleInRoomZero_2 : decode cX2_peopleInRoomZero 2 = .ok (.iconst 0, 1) := by decide +kernel
theorem dX2_peopleInRoomZero_3 : decode cX2_peopleInRoomZero 3 = .ok (.istore_n 2, 1) := by decide +kernel
theorem dX2_peopleInRoomZero_4 : decode cX2_peopleInRoomZero 4 = .ok (.iload_n 2, 1) := by decide +kernel
theorem dX2_peopleInRoomZero_5 : decode cX2_peopleInRoomZero 5 = .ok (.aload_n 0, 1) := by decide +kernel
theorem dX2_peopleInRoomZero_6 : decode cX2_peopleInRoomZero 6 = .ok (.getfield 93, 3) := by decide +kernel
theorem dX2_peopleInRoomZero_9 : decode cX2_peopleInRoomZero 9 = .ok (.if_icmp .ge 21, 3) := by decide +kernel
theorem dX2_peopleInRoomZero_12 : decode cX2_peopleInRoomZero 12 = .ok (.aload_n 0, 1) := by decide +kernel
theorem dX2_peopleInRoomZero_13 : decode cX2_peopleInRoomZero 13 = .ok (.getfield 49, 3) := by decide +kernel
theorem dX2_peopleInRoomZero_16 : decode cX2_peopleInRoomZero 16 = .ok (.iload_n 2, 1) := by decide +kernel
theorem dX2_peopleInRoomZero_17 : decode cX2_peopleInRoomZero 17 = .ok (.iaload, 1) := by decide +kernel
theorem dX2_peopleInRoomZero_18 : decode cX2_peopleInRoomZero 18 = .ok (.ifCond .ne 6, 3) := by decide +kernel
theorem dX2_peopleInRoomZero_21 : decode cX2_peopleInRoomZero 21 = .ok (.iinc 1 1, 3) := by decide +kernel
theorem dX2_peopleInRoomZero_24 : decode cX2_peopleInRoomZero 24 = .ok (.iinc 2 1, 3) := by decide +kernel
theorem dX2_peopleInRoomZero_27 : decode cX2_peopleInRoomZero 27 = .ok (.goto (-23), 3) := by decide +kernel
theorem dX2_peopleInRoomZero_30 : decode cX2_peopleInRoomZero 30 = .ok (.iload_n 1, 1) := by decide +kernel
theorem dX2_peopleInRoomZero_31 : decode cX2_peopleInRoomZero 31 = .ok (.ireturn, 1) := by decide +kernel
set_option maxRecDepth 20000 in
theorem ggX3_init_X4_init : GoodIn wsX3_init wsX4_init := goodIn_r _ [3, 4, 5, 6, 7, 8, 9] (by decide +kernel) (by decide +kernel)
set_option maxRecDepth 20000 in
theorem gX3_init_X4_init_n1 : GoodIn wsX3_init (wsX4_init) := ggX3_init_X4_init
theorem dX3_init_0 : decode cX3_init 0 = .ok (.aload_n 0, 1) := by decide +kernel
theorem dX3_init_1 : decode cX3_init 1 = .ok (.invokespecial 1, 3) := by decide +kernel
theorem dX3_init_4 : decode cX3_init 4 = .ok (.return_, 1) := by decide +kernel
set_option maxRecDepth 20000 in
theorem ggX3_yards_X4_yards : GoodIn wsX3_yards wsX4_yards := goodIn_r _ [6] (by decide +kernel) (by decide +kernel)
set_option maxRecDepth 20000 in
theorem gX3_yards_X4_yards_s7 : GoodIn wsX3_yards (va_wsSU RX3 7 yX4_yards wsX4_yards) := goodIn_app (goodIn_of _ (by decide +kernel)) ggX3_yards_X4_yards
theorem dX3_yards_0 : decode cX3_yards 0 = .ok (.iconst 2, 1) := by decide +kernel
theorem dX3_yards_1 : decode cX3_yards 1 = .ok (.aload_n 0, 1) := by decide +kernel
theorem dX3_yards_2 : decode cX3_yards 2 = .ok (.iload_n 1, 1) := by decide +kernel
theorem dX3_yards_3 : decode cX3_yards 3 = .ok (.iload_n 2, 1) := by decide +kernel
theorem dX3_yards_4 : decode cX3_yards 4 = .ok (.iload_n 3, 1) := by decide +kernel
theorem dX3_yards_5 : decode cX3_yards 5 = .ok (.invokespecial 7, 3) := by decide +kernel
theorem dX3_yards_8 : decode cX3_yards 8 = .ok (.imul, 1) := by decide +kernel
theorem dX3_yards_9 : decode cX3_yards 9 = .ok (.ireturn, 1) := by decide +kernel
set_option maxRecDepth 20000 in
theorem ggX4_init_X1_init : GoodIn wsX4_init wsX1_init := goodIn_r _ [3, 4, 5, 6] (by decide +kernel) (by decide +kernel)
set_option maxRecDepth 20000 in
theorem gX4_init_X1_init_n1 : GoodIn wsX4_init (wsX1_init) := ggX4_init_X1_init
theorem dX4_init_0 : decode cX4_init 0 = .ok (.aload_n 0, 1) := by decide +kernel
theorem dX4_init_1 : decode cX4_init 1 = .ok (.invokespecial 1, 3) := by decide +kernel
theorem dX4_init_4 : decode cX4_init 4 = .ok (.return_, 1) := by decide +kernel
theorem dX4_yards_0 : decode cX4_yards 0 = .ok (.iload_n 1, 1) := by decide +kernel
theorem dX4_yards_1 : decode cX4_yards 1 = .ok (.iconst 3, 1) := by decide +kernel
theorem dX4_yards_2 : decode cX4_yards 2 = .ok (.iload_n 2, 1) := by decide +kernel
theorem dX4_yards_3 : decode cX4_yards 3 = .ok (.imul, 1) := by decide +kernel
theorem dX4_yards_4 : decode cX4_yards 4 = .ok (.iadd, 1) := by decide +kernel
theorem dX4_yards_5 : decode cX4_yards 5 = .ok (.iconst 2, 1) := by decide +kernel
theorem dX4_yards_6 : decode cX4_yards 6 = .ok (.iload_n 3, 1) := by decide +kernel
theorem dX4_yards_7 : decode cX4_yards 7 = .ok (.imul, 1) := by decide +kernel
theorem dX4_yards_8 : decode cX4_yards 8 = .ok (.iadd, 1) := by decide +kernel
theorem dX4_yards_9 : decode cX4_yards 9 = .ok (.ireturn, 1) := by decide +kernel
theorem dX5_init_0 : decode cX5_init 0 = .ok (.aload_n 0, 1) := by decide +kernel
theorem dX5_init_1 : decode cX5_init 1 = .ok (.invokespecial 3, 3) := by decide +kernel
theorem dX5_init_4 : decode cX5_init 4 = .ok (.aload_n 0, 1) := by decide +kernel
theorem dX5_init_5 : decode cX5_init 5 = .ok (.bipush 52, 2) := by decide +kernel
theorem dX5_init_7 : decode cX5_init 7 = .ok (.newarray .int, 2) := by decide +kernel
theorem dX5_init_9 : decode cX5_init 9 = .ok (.putfield 9, 3) := by decide +kernel
theorem dX5_init_12 : decode cX5_init 12 = .ok (.return_, 1) := by decide +kernel
theorem dX5_append_0 : decode cX5_append 0 = .ok (.aload_n 0, 1) := by decide +kernel
theorem dX5_append_1 : decode cX5_append 1 = .ok (.getfield 15, 3) := by decide +kernel
theorem dX5_append_4 : decode cX5_append 4 = .ok (.bipush 52, 2) := by decide +kernel
theorem dX5_append_6 : decode cX5_append 6 = .ok (.if_icmp .ge 23, 3) := by decide +kernel
theorem dX5_append_9 : decode cX5_append 9 = .ok (.aload_n 0, 1) := by decide +kernel
theorem dX5_append_10 : decode cX5_append 10 = .ok (.getfield 9, 3) := by decide +kernel
theorem dX5_append_13 : decode cX5_append 13 = .ok (.aload_n 0, 1) := by decide +kernel
theorem dX5_append_14 : decode cX5_append 14 = .ok (.getfield 15, 3) := by decide +kernel
theorem dX5_append_17 : decode cX5_append 17 = .ok (.iload_n 1, 1) := by decide +kernel
theorem dX5_append_18 : decode cX5_append 18 = .ok (.iastore, 1) := by decide +kernel
theorem dX5_append_19 : decode cX5_append 19 = .ok (.aload_n 0, 1) := by decide +kernel
theorem dX5_append_20 : decode cX5_append 20 = .ok (.dup, 1) := by decide +kernel
theorem dX5_append_21 : decode cX5_append 21 = .ok (.getfield 15, 3) := by decide +kernel
theorem dX5_append_24 : decode cX5_append 24 = .ok (.iconst 1, 1) := by decide +kernel
theorem dX5_append_25 : decode cX5_append 25 = .ok (.iadd, 1) := by decide +kernel
theorem dX5_append_26 : decode cX5_append 26 = .ok (.putfield 15, 3) := by decide +kernel
theorem dX5_append_29 : decode cX5_append 29 = .ok (.return_, 1) := by decide +kernel
theorem dX5_codeAt_0 : decode cX5_codeAt 0 = .ok (.iload_n 1, 1) := by decide +kernel
theorem dX5_codeAt_1 : decode cX5_codeAt 1 = .ok (.ifCond .lt 20, 3) := by decide +kernel
theorem dX5_codeAt_4 : decode cX5_codeAt 4 = .ok (.iload_n 1, 1) := by decide +kernel
theorem dX5_codeAt_5 : decode cX5_codeAt 5 = .ok (.aload_n 0, 1) := by decide +kernel
theorem dX5_codeAt_6 : decode cX5_codeAt 6 = .ok (.getfield 15, 3) := by decide +kernel
theorem dX5_codeAt_9 : decode cX5_codeAt 9 = .ok (.if_icmp .ge 12, 3) := by decide +kernel
theorem dX5_codeAt_12 : decode cX5_codeAt 12 = .ok (.aload_n 0, 1) := by decide +kernel
theorem dX5_codeAt_13 : decode cX5_codeAt 13 = .ok (.getfield 9, 3) := by decide +kernel
theorem dX5_codeAt_16 : decode cX5_codeAt 16 = .ok (.iload_n 1, 1) := by decide +kernel
theorem dX5_codeAt_17 : decode cX5_codeAt 17 = .ok (.iaload, 1) := by decide +kernel
theorem dX5_codeAt_18 : decode cX5_codeAt 18 = .ok (.goto 4, 3) := by decide +kernel
theorem dX5_codeAt_21 : decode cX5_codeAt 21 = .ok (.iconst 0, 1) := by decide +kernel
theorem dX5_codeAt_22 : decode cX5_codeAt 22 = .ok (.ireturn, 1) := by decide +kernel
set_option maxRecDepth 20000 in
theorem ggX5_digitAt_X5_codeAt : GoodIn wsX5_digitAt wsX5_codeAt := goodIn_r _ [5, 6, 7, 8, 9] (by decide +kernel) (by decide +kernel)
set_option maxRecDepth 20000 in
theorem gX5_digitAt_X5_codeAt : GoodIn wsX5_digitAt (wsV RX5 19 RX5 yX5_codeAt wsX5_codeAt) := goodIn_app (goodIn_of _ (by decide +kernel)) ggX5_digitAt_X5_codeAt
theorem dX5_digitAt_0 : decode cX5_digitAt 0 = .ok (.aload_n 0, 1) := by decide +kernel
theorem dX5_digitAt_1 : decode cX5_digitAt 1 = .ok (.iload_n 1, 1) := by decide +kernel
theorem dX5_digitAt_2 : decode cX5_digitAt 2 = .ok (.invokevirtual 19, 3) := by decide +kernel
theorem dX5_digitAt_5 : decode cX5_digitAt 5 = .ok (.bipush 48, 2) := by decide +kernel
theorem dX5_digitAt_7 : decode cX5_digitAt 7 = .ok (.isub, 1) := by decide +kernel
theorem dX5_digitAt_8 : decode cX5_digitAt 8 = .ok (.ireturn, 1) := by decide +kernel
set_option maxRecDepth 20000 in
theorem ggX5_kindAt_X5_codeAt : GoodIn wsX5_kindAt wsX5_codeAt := goodIn_r _ [5, 6, 7, 97, 98] (by decide +kernel) (by decide +kernel)
set_option maxRecDepth 20000 in
theorem gX5_kindAt_X5_codeAt : GoodIn wsX5_kindAt (wsV RX5 19 RX5 yX5_codeAt wsX5_codeAt) := goodIn_app (goodIn_of _ (by decide +kernel)) ggX5_kindAt_X5_codeAt
set_option maxRecDepth 20000 in
theorem ggX5_kindAt_J0_indexOf_0f7a4 : GoodIn wsX5_kindAt wsJ0_indexOf_0f7a4 := goodIn_r _ [12, 13, 14, 15, 11, 16, 17, 18, 19, 20, 21, 22, 23, 24, 25, 26, 27, 28, 29, 30, 31, 32, 33, 34, 35, 36, 37, 38, 39, 40, 41, 42, 43, 44, 45, 46, 47, 48, 49, 50, 51, 52, 53, 54, 55, 56, 57, 58, 59, 60, 61, 62, 63, 64, 65, 66, 67, 68, 69, 70, 71, 72, 73, 74, 75, 76, 77, 78, 79, 80, 81, 82, 83, 84, 85, 86, 87, 88, 89, 90, 91, 92, 93, 94, 95, 96] (by decide +kernel) (by decide +kernel)
set_option maxRecDepth 20000 in
theorem gX5_kindAt_J0_indexOf_0f7a4 : GoodIn wsX5_kindAt (wsV RX5 25 RJ0 yJ0_indexOf_0f7a4 wsJ0_indexOf_0f7a4) := goodIn_app (goodIn_of _ (by decide +kernel)) ggX5_kindAt_J0_indexOf_0f7a4
theorem dX5_kindAt_0 : decode cX5_kindAt 0 = .ok (.ldc 23, 2) := by decide +kernel
theorem dX5_kindAt_2 : decode cX5_kindAt 2 = .ok (.aload_n 0, 1) := by decide +kernel
theorem dX5_kindAt_3 : decode cX5_kindAt 3 = .ok (.iload_n 1, 1) := by decide +kernel
theorem dX5_kindAt_4 : decode cX5_kindAt 4 = .ok (.invokevirtual 19, 3) := by decide +kernel
theorem dX5_kindAt_7 : decode cX5_kindAt 7 = .ok (.i2c, 1) := by decide +kernel
theorem dX5_kindAt_8 : decode cX5_kindAt 8 = .ok (.invokevirtual 25, 3) := by decide +kernel
theorem dX5_kindAt_11 : decode cX5_kindAt 11 = .ok (.ireturn, 1) := by decide +kernel
theorem dX5_border_0 : decode cX5_border 0 = .ok (.iconst 5, 1) := by decide +kernel
theorem dX5_border_1 : decode cX5_border 1 = .ok (.istore_n 1, 1) := by decide +kernel
theorem dX5_border_2 : decode cX5_border 2 = .ok (.iload_n 1, 1) := by decide +kernel
theorem dX5_border_3 : decode cX5_border 3 = .ok (.aload_n 0, 1) := by decide +kernel
theorem dX5_border_4 : decode cX5_border 4 = .ok (.getfield 15, 3) := by decide +kernel
theorem dX5_border_7 : decode cX5_border 7 = .ok (.if_icmp .ge 22, 3) := by decide +kernel
theorem dX5_border_10 : decode cX5_border 10 = .ok (.aload_n 0, 1) := by decide +kernel
theorem dX5_border_11 : decode cX5_border 11 = .ok (.getfield 9, 3) := by decide +kernel
theorem dX5_border_14 : decode cX5_border 14 = .ok (.iload_n 1, 1) := by decide +kernel
theorem dX5_border_15 : decode cX5_border 15 = .ok (.iaload, 1) := by decide +kernel
theorem dX5_border_16 : decode cX5_border 16 = .ok (.bipush 59, 2) := by decide +kernel
theorem dX5_border_18 : decode cX5_border 18 = .ok (.if_icmp .ne 5, 3) := by decide +kernel
theorem dX5_border_21 : decode cX5_border 21 = .ok (.iload_n 1, 1) := by decide +kernel
theorem dX5_border_22 : decode cX5_border 22 = .ok (.ireturn, 1) := by decide +kernel
theorem dX5_border_23 : decode cX5_border 23 = .ok (.iinc 1 4, 3) := by decide +kernel
theorem dX5_border_26 : decode cX5_border 26 = .ok (.goto (-24), 3) := by decide +kernel
theorem dX5_border_29 : decode cX5_border 29 = .ok (.aload_n 0, 1) := by decide +kernel
theorem dX5_border_30 : decode cX5_border 30 = .ok (.getfield 15, 3) := by decide +kernel
theorem dX5_border_33 : decode cX5_border 33 = .ok (.ireturn, 1) := by decide +kernel
set_option maxRecDepth 20000 in
theorem ggX5_firstFault_X5_border : GoodIn wsX5_firstFault wsX5_border := goodIn_r _ [6, 1, 7, 125, 126] (by decide +kernel) (by decide +kernel)
set_option maxRecDepth 20000 in
theorem gX5_firstFault_X5_border : GoodIn wsX5_firstFault (wsV RX5 30 RX5 yX5_border wsX5_border) := goodIn_app (goodIn_of _ (by decide +kernel)) ggX5_firstFault_X5_border
set_option maxRecDepth 20000 in
theorem ggX5_firstFault_X5_fits : GoodIn wsX5_firstFault wsX5_fits := goodIn_r _ [11, 12, 13, 14, 5, 15, 16, 17, 18, 19, 1, 7, 20, 21, 22, 23, 24, 25, 26, 27, 28, 29, 30, 31, 32, 33, 34, 35, 36, 37, 38, 39, 40, 41, 42, 43, 44, 45, 46, 47, 48, 49, 50, 51, 52, 53, 54, 55, 56, 57, 58, 59, 60, 61, 62, 63, 64, 65, 66, 67, 68, 69, 70, 71, 72, 73, 74, 75, 76, 77, 78, 79, 80, 81, 82, 83, 84, 85, 86, 87, 88, 89, 90, 91, 92, 93, 94, 95, 96, 97, 98, 99, 100, 101, 102, 103, 104, 105, 106, 107, 108, 109, 110, 111, 112, 113, 114, 115, 116, 117, 118, 119, 120, 121, 122, 123, 124, 125, 126] (by decide +kernel) (by decide +kernel)
set_option maxRecDepth 20000 in
theorem gX5_firstFault_X5_fits : GoodIn wsX5_firstFault (wsV RX5 34 RX5 yX5_fits wsX5_fits) := goodIn_app (goodIn_of _ (by decide +kernel)) ggX5_firstFault_X5_fits
theorem dX5_firstFault_0 : decode cX5_firstFault 0 = .ok (.aload_n 0, 1) := by decide +kernel
theorem dX5_firstFault_1 : decode cX5_firstFault 1 = .ok (.invokevirtual 30, 3) := by decide +kernel
theorem dX5_firstFault_4 : decode cX5_firstFault 4 = .ok (.istore_n 1, 1) := by decide +kernel
theorem dX5_firstFault_5 : decode cX5_firstFault 5 = .ok (.iconst 0, 1) := by decide +kernel
theorem dX5_firstFault_6 : decode cX5_firstFault 6 = .ok (.istore_n 2, 1) := by decide +kernel
theorem dX5_firstFault_7 : decode cX5_firstFault 7 = .ok (.iload_n 2, 1) := by decide +kernel
theorem dX5_firstFault_8 : decode cX5_firstFault 8 = .ok (.aload_n 0, 1) := by decide +kernel
theorem dX5_firstFault_9 : decode cX5_firstFault 9 = .ok (.getfield 15, 3) := by decide +kernel
theorem dX5_firstFault_12 : decode cX5_firstFault 12 = .ok (.if_icmp .ge 20, 3) := by decide +kernel
theorem dX5_firstFault_15 : decode cX5_firstFault 15 = .ok (.aload_n 0, 1) := by decide +kernel
theorem dX5_firstFault_16 : decode cX5_firstFault 16 = .ok (.iload_n 2, 1) := by decide +kernel
theorem dX5_firstFault_17 : decode cX5_firstFault 17 = .ok (.iload_n 1, 1) := by decide +kernel
theorem dX5_firstFault_18 : decode cX5_firstFault 18 = .ok (.invokevirtual 34, 3) := by decide +kernel
theorem dX5_firstFault_21 : decode cX5_firstFault 21 = .ok (.ifCond .ne 5, 3) := by decide +kernel
theorem dX5_firstFault_24 : decode cX5_firstFault 24 = .ok (.iload_n 2, 1) := by decide +kernel
theorem dX5_firstFault_25 : decode cX5_firstFault 25 = .ok (.ireturn, 1) := by decide +kernel
theorem dX5_firstFault_26 : decode cX5_firstFault 26 = .ok (.iinc 2 1, 3) := by decide +kernel
theorem dX5_firstFault_29 : decode cX5_firstFault 29 = .ok (.goto (-22), 3) := by decide +kernel
theorem dX5_firstFault_32 : decode cX5_firstFault 32 = .ok (.aload_n 0, 1) := by decide +kernel
theorem dX5_firstFault_33 : decode cX5_firstFault 33 = .ok (.getfield 15, 3) := by decide +kernel
theorem dX5_firstFault_36 : decode cX5_firstFault 36 = .ok (.ireturn, 1) := by decide +kernel
set_option maxRecDepth 20000 in
theorem ggX5_isWhole_X5_border : GoodIn wsX5_isWhole wsX5_border := goodIn_r _ [6, 1, 7, 129, 130] (by decide +kernel) (by decide +kernel)
set_option maxRecDepth 20000 in
theorem gX5_isWhole_X5_border : GoodIn wsX5_isWhole (wsV RX5 30 RX5 yX5_border wsX5_border) := goodIn_app (goodIn_of _ (by decide +kernel)) ggX5_isWhole_X5_border
set_option maxRecDepth 20000 in
theorem ggX5_isWhole_X5_firstFault : GoodIn wsX5_isWhole wsX5_firstFault := goodIn_r _ [11, 1, 2, 3, 4, 5, 6, 7, 12, 13, 14, 15, 16, 17, 18, 19, 20, 21, 22, 23, 24, 25, 26, 27, 28, 29, 30, 31, 32, 33, 34, 35, 36, 37, 38, 39, 40, 41, 42, 43, 44, 45, 46, 47, 48, 49, 50, 51, 52, 53, 54, 55, 56, 57, 58, 59, 60, 61, 62, 63, 64, 65, 66, 67, 68, 69, 70, 71, 72, 73, 74, 75, 76, 77, 78, 79, 80, 81, 82, 83, 84, 85, 86, 87, 88, 89, 90, 91, 92, 93, 94, 95, 96, 97, 98, 99, 100, 101, 102, 103, 104, 105, 106, 107, 108, 109, 110, 111, 112, 113, 114, 115, 116, 117, 118, 119, 120, 121, 122, 123, 124, 125, 126, 127, 128, 129, 130] (by decide +kernel) (by decide +kernel)
set_option maxRecDepth 20000 in
theorem gX5_isWhole_X5_firstFault : GoodIn wsX5_isWhole (wsV RX5 38 RX5 yX5_firstFault wsX5_firstFault) := goodIn_app (goodIn_of _ (by decide +kernel)) ggX5_isWhole_X5_firstFault
theorem dX5_isWhole_0 : decode cX5_isWhole 0 = .ok (.aload_n 0, 1) := by decide +kernel
theorem dX5_isWhole_1 : decode cX5_isWhole 1 = .ok (.getfield 15, 3) := by decide +kernel
theorem dX5_isWhole_4 : decode cX5_isWhole 4 = .ok (.aload_n 0, 1) := by decide +kernel
theorem dX5_isWhole_5 : decode cX5_isWhole 5 = .ok (.invokevirtual 30, 3) := by decide +kernel
theorem dX5_isWhole_8 : decode cX5_isWhole 8 = .ok (.isub, 1) := by decide +kernel
theorem dX5_isWhole_9 : decode cX5_isWhole 9 = .ok (.istore_n 1, 1) := by decide +kernel
theorem dX5_isWhole_10 : decode cX5_isWhole 10 = .ok (.iload_n 1, 1) := by decide +kernel
theorem dX5_isWhole_11 : decode cX5_isWhole 11 = .ok (.ifCond .le 24, 3) := by decide +kernel
theorem dX5_isWhole_14 : decode cX5_isWhole 14 = .ok (.iload_n 1, 1) := by decide +kernel
theorem dX5_isWhole_15 : decode cX5_isWhole 15 = .ok (.iconst 4, 1) := by decide +kernel
theorem dX5_isWhole_16 : decode cX5_isWhole 16 = .ok (.irem, 1) := by decide +kernel
theorem dX5_isWhole_17 : decode cX5_isWhole 17 = .ok (.ifCond .ne 18, 3) := by decide +kernel
theorem dX5_isWhole_20 : decode cX5_isWhole 20 = .ok (.aload_n 0, 1) := by decide +kernel
theorem dX5_isWhole_21 : decode cX5_isWhole 21 = .ok (.invokevirtual 38, 3) := by decide +kernel
theorem dX5_isWhole_24 : decode cX5_isWhole 24 = .ok (.aload_n 0, 1) := by decide +kernel
theorem dX5_isWhole_25 : decode cX5_isWhole 25 = .ok (.getfield 15, 3) := by decide +kernel
theorem dX5_isWhole_28 : decode cX5_isWhole 28 = .ok (.if_icmp .ne 7, 3) := by decide +kernel
theorem dX5_isWhole_31 : decode cX5_isWhole 31 = .ok (.iconst 1, 1) := by decide +kernel
theorem dX5_isWhole_32 : decode cX5_isWhole 32 = .ok (.goto 4, 3) := by decide +kernel
theorem dX5_isWhole_35 : decode cX5_isWhole 35 = .ok (.iconst 0, 1) := by decide +kernel
theorem dX5_isWhole_36 : decode cX5_isWhole 36 = .ok (.ireturn, 1) := by decide +kernel
set_option maxRecDepth 20000 in
theorem ggX5_fits_X5_isDigit : GoodIn wsX5_fits wsX5_isDigit := goodIn_r _ [5, 6, 7, 8, 4, 9, 10, 11, 117, 118] (by decide +kernel) (by decide +kernel)
set_option maxRecDepth 20000 in
theorem gX5_fits_X5_isDigit : GoodIn wsX5_fits (wsV RX5 41 RX5 yX5_isDigit wsX5_isDigit) := goodIn_app (goodIn_of _ (by decide +kernel)) ggX5_fits_X5_isDigit
set_option maxRecDepth 20000 in
theorem ggX5_fits_X5_codeAt : GoodIn wsX5_fits wsX5_codeAt := goodIn_r _ [9, 10, 11, 117, 118] (by decide +kernel) (by decide +kernel)
set_option maxRecDepth 20000 in
theorem gX5_fits_X5_codeAt : GoodIn wsX5_fits (wsV RX5 19 RX5 yX5_codeAt wsX5_codeAt) := goodIn_app (goodIn_of _ (by decide +kernel)) ggX5_fits_X5_codeAt
set_option maxRecDepth 20000 in
theorem ggX5_fits_X5_fitsPassage : GoodIn wsX5_fits wsX5_fitsPassage := goodIn_r _ [15, 16, 17, 18, 4, 19, 6, 7, 8, 9, 10, 11, 1, 2, 3, 5, 117, 118] (by decide +kernel) (by decide +kernel)
set_option maxRecDepth 20000 in
theorem gX5_fits_X5_fitsPassage : GoodIn wsX5_fits (wsV RX5 45 RX5 yX5_fitsPassage wsX5_fitsPassage) := goodIn_app (goodIn_of _ (by decide +kernel)) ggX5_fits_X5_fitsPassage
set_option maxRecDepth 20000 in
theorem ggX5_fits_X5_fitsPerson : GoodIn wsX5_fits wsX5_fitsPerson := goodIn_r _ [23, 24, 25, 26, 4, 27, 6, 7, 8, 9, 10, 11, 28, 29, 30, 31, 32, 33, 34, 35, 36, 37, 38, 39, 40, 41, 42, 43, 44, 45, 46, 47, 48, 49, 50, 51, 52, 53, 54, 55, 56, 57, 58, 59, 60, 61, 62, 63, 64, 65, 66, 67, 68, 69, 70, 71, 72, 73, 74, 75, 76, 77, 78, 79, 80, 81, 82, 83, 84, 85, 86, 87, 88, 89, 90, 91, 92, 93, 94, 95, 96, 97, 98, 99, 100, 101, 102, 103, 104, 105, 106, 107, 108, 109, 110, 111, 112, 113, 114, 115, 116, 1, 2, 3, 5, 117, 118] (by decide +kernel) (by decide +kernel)
set_option maxRecDepth 20000 in
theorem gX5_fits_X5_fitsPerson : GoodIn wsX5_fits (wsV RX5 49 RX5 yX5_fitsPerson wsX5_fitsPerson) := goodIn_app (goodIn_of _ (by decide +kernel)) ggX5_fits_X5_fitsPerson
theorem dX5_fits_0 : decode cX5_fits 0 = .ok (.iload_n 1, 1) := by decide +kernel
theorem dX5_fits_1 : decode cX5_fits 1 = .ok (.ifCond .ne 11, 3) := by decide +kernel
theorem dX5_fits_4 : decode cX5_fits 4 = .ok (.aload_n 0, 1) := by decide +kernel
theorem dX5_fits_5 : decode cX5_fits 5 = .ok (.iload_n 1, 1) := by decide +kernel
theorem dX5_fits_6 : decode cX5_fits 6 = .ok (.iconst 2, 1) := by decide +kernel
theorem dX5_fits_7 : decode cX5_fits 7 = .ok (.iconst 5, 1) := by decide +kernel
theorem dX5_fits_8 : decode cX5_fits 8 = .ok (.invokevirtual 41, 3) := by decide +kernel
theorem dX5_fits_11 : decode cX5_fits 11 = .ok (.ireturn, 1) := by decide +kernel
theorem dX5_fits_12 : decode cX5_fits 12 = .ok (.iload_n 1, 1) := by decide +kernel
theorem dX5_fits_13 : decode cX5_fits 13 = .ok (.iconst 1, 1) := by decide +kernel
theorem dX5_fits_14 : decode cX5_fits 14 = .ok (.if_icmp .ne 19, 3) := by decide +kernel
theorem dX5_fits_17 : decode cX5_fits 17 = .ok (.aload_n 0, 1) := by decide +kernel
theorem dX5_fits_18 : decode cX5_fits 18 = .ok (.iload_n 1, 1) := by decide +kernel
theorem dX5_fits_19 : decode cX5_fits 19 = .ok (.invokevirtual 19, 3) := by decide +kernel
theorem dX5_fits_22 : decode cX5_fits 22 = .ok (.bipush 59, 2) := by decide +kernel
theorem dX5_fits_24 : decode cX5_fits 24 = .ok (.if_icmp .ne 7, 3) := by decide +kernel
theorem dX5_fits_27 : decode cX5_fits 27 = .ok (.iconst 1, 1) := by decide +kernel
theorem dX5_fits_28 : decode cX5_fits 28 = .ok (.goto 4, 3) := by decide +kernel
theorem dX5_fits_31 : decode cX5_fits 31 = .ok (.iconst 0, 1) := by decide +kernel
theorem dX5_fits_32 : decode cX5_fits 32 = .ok (.ireturn, 1) := by decide +kernel
theorem dX5_fits_33 : decode cX5_fits 33 = .ok (.iload_n 1, 1) := by decide +kernel
theorem dX5_fits_34 : decode cX5_fits 34 = .ok (.iload_n 2, 1) := by decide +kernel
theorem dX5_fits_35 : decode cX5_fits 35 = .ok (.if_icmp .ge 9, 3) := by decide +kernel
theorem dX5_fits_38 : decode cX5_fits 38 = .ok (.aload_n 0, 1) := by decide +kernel
theorem dX5_fits_39 : decode cX5_fits 39 = .ok (.iload_n 1, 1) := by decide +kernel
theorem dX5_fits_40 : decode cX5_fits 40 = .ok (.invokevirtual 45, 3) := by decide +kernel
theorem dX5_fits_43 : decode cX5_fits 43 = .ok (.ireturn, 1) := by decide +kernel
theorem dX5_fits_44 : decode cX5_fits 44 = .ok (.iload_n 1, 1) := by decide +kernel
theorem dX5_fits_45 : decode cX5_fits 45 = .ok (.iload_n 2, 1) := by decide +kernel
theorem dX5_fits_46 : decode cX5_fits 46 = .ok (.if_icmp .eq 16, 3) := by decide +kernel
theorem dX5_fits_49 : decode cX5_fits 49 = .ok (.aload_n 0, 1) := by decide +kernel
theorem dX5_fits_50 : decode cX5_fits 50 = .ok (.iload_n 1, 1) := by decide +kernel
theorem dX5_fits_51 : decode cX5_fits 51 = .ok (.iload_n 1, 1) := by decide +kernel
theorem dX5_fits_52 : decode cX5_fits 52 = .ok (.iload_n 2, 1) := by decide +kernel
theorem dX5_fits_53 : decode cX5_fits 53 = .ok (.isub, 1) := by decide +kernel
theorem dX5_fits_54 : decode cX5_fits 54 = .ok (.iconst 1, 1) := by decide +kernel
theorem dX5_fits_55 : decode cX5_fits 55 = .ok (.isub, 1) := by decide +kernel
theorem dX5_fits_56 : decode cX5_fits 56 = .ok (.invokevirtual 49, 3) := by decide +kernel
theorem dX5_fits_59 : decode cX5_fits 59 = .ok (.ifCond .eq 7, 3) := by decide +kernel
theorem dX5_fits_62 : decode cX5_fits 62 = .ok (.iconst 1, 1) := by decide +kernel
theorem dX5_fits_63 : decode cX5_fits 63 = .ok (.goto 4, 3) := by decide +kernel
theorem dX5_fits_66 : decode cX5_fits 66 = .ok (.iconst 0, 1) := by decide +kernel
theorem dX5_fits_67 : decode cX5_fits 67 = .ok (.ireturn, 1) := by decide +kernel
set_option maxRecDepth 20000 in
theorem ggX5_fitsPassage_X5_digitAt : GoodIn wsX5_fitsPassage wsX5_digitAt := goodIn_r _ [5, 6, 7, 8, 4, 9, 10, 11, 16, 17] (by decide +kernel) (by decide +kernel)
set_option maxRecDepth 20000 in
theorem gX5_fitsPassage_X5_digitAt : GoodIn wsX5_fitsPassage (wsV RX5 52 RX5 yX5_digitAt wsX5_digitAt) := goodIn_app (goodIn_of _ (by decide +kernel)) ggX5_fitsPassage_X5_digitAt
set_option maxRecDepth 20000 in
theorem ggX5_fitsPassage_X5_isDigit : GoodIn wsX5_fitsPassage wsX5_isDigit := goodIn_r _ [15, 6, 7, 8, 4, 9, 10, 11, 16, 17] (by decide +kernel) (by decide +kernel)
set_option maxRecDepth 20000 in
theorem gX5_fitsPassage_X5_isDigit : GoodIn wsX5_fitsPassage (wsV RX5 41 RX5 yX5_isDigit wsX5_isDigit) := goodIn_app (goodIn_of _ (by decide +kernel)) ggX5_fitsPassage_X5_isDigit
set_option maxRecDepth 20000 in
theorem ggX5_fitsPassage_X5_codeAt : GoodIn wsX5_fitsPassage wsX5_codeAt := goodIn_r _ [9, 10, 11, 16, 17] (by decide +kernel) (by decide +kernel)
set_option maxRecDepth 20000 in
theorem gX5_fitsPassage_X5_codeAt : GoodIn wsX5_fitsPassage (wsV RX5 19 RX5 yX5_codeAt wsX5_codeAt) := goodIn_app (goodIn_of _ (by decide +kernel)) ggX5_fitsPassage_X5_codeAt
theorem dX5_fitsPassage_0 : decode cX5_fitsPassage 0 = .ok (.aload_n 0, 1) := by decide +kernel
theorem dX5_fitsPassage_1 : decode cX5_fitsPassage 1 = .ok (.iconst 0, 1) := by decide +kernel
theorem dX5_fitsPassage_2 : decode cX5_fitsPassage 2 = .ok (.invokevirtual 52, 3) := by decide +kernel
theorem dX5_fitsPassage_5 : decode cX5_fitsPassage 5 = .ok (.iconst 1, 1) := by decide +kernel
theorem dX5_fitsPassage_6 : decode cX5_fitsPassage 6 = .ok (.isub, 1) := by decide +kernel
theorem dX5_fitsPassage_7 : decode cX5_fitsPassage 7 = .ok (.istore_n 2, 1) := by decide +kernel
theorem dX5_fitsPassage_8 : decode cX5_fitsPassage 8 = .ok (.iload_n 1, 1) := by decide +kernel
theorem dX5_fitsPassage_9 : decode cX5_fitsPassage 9 = .ok (.iconst 2, 1) := by decide +kernel
theorem dX5_fitsPassage_10 : decode cX5_fitsPassage 10 = .ok (.isub, 1) := by decide +kernel
theorem dX5_fitsPassage_11 : decode cX5_fitsPassage 11 = .ok (.iconst 4, 1) := by decide +kernel
theorem dX5_fitsPassage_12 : decode cX5_fitsPassage 12 = .ok (.irem, 1) := by decide +kernel
theorem dX5_fitsPassage_13 : decode cX5_fitsPassage 13 = .ok (.tableswitch 75 0 2 #[27, 35, 66], 27) := by decide +kernel
theorem dX5_fitsPassage_40 : decode cX5_fitsPassage 40 = .ok (.aload_n 0, 1) := by decide +kernel
theorem dX5_fitsPassage_41 : decode cX5_fitsPassage 41 = .ok (.iload_n 1, 1) := by decide +kernel
theorem dX5_fitsPassage_42 : decode cX5_fitsPassage 42 = .ok (.iconst 0, 1) := by decide +kernel
theorem dX5_fitsPassage_43 : decode cX5_fitsPassage 43 = .ok (.iload_n 2, 1) := by decide +kernel
theorem dX5_fitsPassage_44 : decode cX5_fitsPassage 44 = .ok (.invokevirtual 41, 3) := by decide +kernel
theorem dX5_fitsPassage_47 : decode cX5_fitsPassage 47 = .ok (.ireturn, 1) := by decide +kernel
theorem dX5_fitsPassage_48 : decode cX5_fitsPassage 48 = .ok (.aload_n 0, 1) := by decide +kernel
theorem dX5_fitsPassage_49 : decode cX5_fitsPassage 49 = .ok (.iload_n 1, 1) := by decide +kernel
theorem dX5_fitsPassage_50 : decode cX5_fitsPassage 50 = .ok (.iconst 0, 1) := by decide +kernel
theorem dX5_fitsPassage_51 : decode cX5_fitsPassage 51 = .ok (.iload_n 2, 1) := by decide +kernel
theorem dX5_fitsPassage_52 : decode cX5_fitsPassage 52 = .ok (.invokevirtual 41, 3) := by decide +kernel
theorem dX5_fitsPassage_55 : decode cX5_fitsPassage 55 = .ok (.ifCond .eq 22, 3) := by decide +kernel
theorem dX5_fitsPassage_58 : decode cX5_fitsPassage 58 = .ok (.aload_n 0, 1) := by decide +kernel
theorem dX5_fitsPassage_59 : decode cX5_fitsPassage 59 = .ok (.iload_n 1, 1) := by decide +kernel
theorem dX5_fitsPassage_60 : decode cX5_fitsPassage 60 = .ok (.invokevirtual 19, 3) := by decide +kernel
theorem dX5_fitsPassage_63 : decode cX5_fitsPassage 63 = .ok (.aload_n 0, 1) := by decide +kernel
theorem dX5_fitsPassage_64 : decode cX5_fitsPassage 64 = .ok (.iload_n 1, 1) := by decide +kernel
theorem dX5_fitsPassage_65 : decode cX5_fitsPassage 65 = .ok (.iconst 1, 1) := by decide +kernel
theorem dX5_fitsPassage_66 : decode cX5_fitsPassage 66 = .ok (.isub, 1) := by decide +kernel
theorem dX5_fitsPassage_67 : decode cX5_fitsPassage 67 = .ok (.invokevirtual 19, 3) := by decide +kernel
theorem dX5_fitsPassage_70 : decode cX5_fitsPassage 70 = .ok (.if_icmp .eq 7, 3) := by decide +kernel
theorem dX5_fitsPassage_73 : decode cX5_fitsPassage 73 = .ok (.iconst 1, 1) := by decide +kernel
theorem dX5_fitsPassage_74 : decode cX5_fitsPassage 74 = .ok (.goto 4, 3) := by decide +kernel
theorem dX5_fitsPassage_77 : decode cX5_fitsPassage 77 = .ok (.iconst 0, 1) := by decide +kernel
theorem dX5_fitsPassage_78 : decode cX5_fitsPassage 78 = .ok (.ireturn, 1) := by decide +kernel
theorem dX5_fitsPassage_79 : decode cX5_fitsPassage 79 = .ok (.aload_n 0, 1) := by decide +kernel
theorem dX5_fitsPassage_80 : decode cX5_fitsPassage 80 = .ok (.iload_n 1, 1) := by decide +kernel
theorem dX5_fitsPassage_81 : decode cX5_fitsPassage 81 = .ok (.iconst 1, 1) := by decide +kernel
theorem dX5_fitsPassage_82 : decode cX5_fitsPassage 82 = .ok (.bipush 9, 2) := by decide +kernel
theorem dX5_fitsPassage_84 : decode cX5_fitsPassage 84 = .ok (.invokevirtual 41, 3) := by decide +kernel
theorem dX5_fitsPassage_87 : decode cX5_fitsPassage 87 = .ok (.ireturn, 1) := by decide +kernel
theorem dX5_fitsPassage_88 : decode cX5_fitsPassage 88 = .ok (.aload_n 0, 1) := by decide +kernel
theorem dX5_fitsPassage_89 : decode cX5_fitsPassage 89 = .ok (.iload_n 1, 1) := by decide +kernel
theorem dX5_fitsPassage_90 : decode cX5_fitsPassage 90 = .ok (.invokevirtual 19, 3) := by decide +kernel
theorem dX5_fitsPassage_93 : decode cX5_fitsPassage 93 = .ok (.bipush 44, 2) := by decide +kernel
theorem dX5_fitsPassage_95 : decode cX5_fitsPassage 95 = .ok (.if_icmp .ne 15, 3) := by decide +kernel
theorem dX5_fitsPassage_98 : decode cX5_fitsPassage 98 = .ok (.iload_n 1, 1) := by decide +kernel
theorem dX5_fitsPassage_99 : decode cX5_fitsPassage 99 = .ok (.iconst 2, 1) := by decide +kernel
theorem dX5_fitsPassage_100 : decode cX5_fitsPassage 100 = .ok (.isub, 1) := by decide +kernel
theorem dX5_fitsPassage_101 : decode cX5_fitsPassage 101 = .ok (.bipush 24, 2) := by decide +kernel
theorem dX5_fitsPassage_103 : decode cX5_fitsPassage 103 = .ok (.if_icmp .ge 7, 3) := by decide +kernel
theorem dX5_fitsPassage_106 : decode cX5_fitsPassage 106 = .ok (.iconst 1, 1) := by decide +kernel
theorem dX5_fitsPassage_107 : decode cX5_fitsPassage 107 = .ok (.goto 4, 3) := by decide +kernel
theorem dX5_fitsPassage_110 : decode cX5_fitsPassage 110 = .ok (.iconst 0, 1) := by decide +kernel
theorem dX5_fitsPassage_111 : decode cX5_fitsPassage 111 = .ok (.ireturn, 1) := by decide +kernel
set_option maxRecDepth 20000 in
theorem ggX5_fitsPerson_X5_kindAt : GoodIn wsX5_fitsPerson wsX5_kindAt := goodIn_r _ [5, 6, 7, 8, 4, 9, 10, 11, 12, 13, 14, 15, 16, 17, 18, 19, 20, 21, 22, 23, 24, 25, 26, 27, 28, 29, 30, 31, 32, 33, 34, 35, 36, 37, 38, 39, 40, 41, 42, 43, 44, 45, 46, 47, 48, 49, 50, 51, 52, 53, 54, 55, 56, 57, 58, 59, 60, 61, 62, 63, 64, 65, 66, 67, 68, 69, 70, 71, 72, 73, 74, 75, 76, 77, 78, 79, 80, 81, 82, 83, 84, 85, 86, 87, 88, 89, 90, 91, 92, 93, 94, 95, 96, 97, 98, 99, 100, 105, 106] (by decide +kernel) (by decide +kernel)
set_option maxRecDepth 20000 in
theorem gX5_fitsPerson_X5_kindAt : GoodIn wsX5_fitsPerson (wsV RX5 55 RX5 yX5_kindAt wsX5_kindAt) := goodIn_app (goodIn_of _ (by decide +kernel)) ggX5_fitsPerson_X5_kindAt
set_option maxRecDepth 20000 in
theorem ggX5_fitsPerson_X5_isDigit : GoodIn wsX5_fitsPerson wsX5_isDigit := goodIn_r _ [104, 6, 7, 8, 4, 9, 10, 11, 105, 106] (by decide +kernel) (by decide +kernel)
set_option maxRecDepth 20000 in
theorem gX5_fitsPerson_X5_isDigit : GoodIn wsX5_fitsPerson (wsV RX5 41 RX5 yX5_isDigit wsX5_isDigit) := goodIn_app (goodIn_of _ (by decide +kernel)) ggX5_fitsPerson_X5_isDigit
set_option maxRecDepth 20000 in
theorem ggX5_fitsPerson_X5_codeAt : GoodIn wsX5_fitsPerson wsX5_codeAt := goodIn_r _ [9, 10, 11, 105, 106] (by decide +kernel) (by decide +kernel)
set_option maxRecDepth 20000 in
theorem gX5_fitsPerson_X5_codeAt : GoodIn wsX5_fitsPerson (wsV RX5 19 RX5 yX5_codeAt wsX5_codeAt) := goodIn_app (goodIn_of _ (by decide +kernel)) ggX5_fitsPerson_X5_codeAt
theorem dX5_fitsPerson_0 : decode cX5_fitsPerson 0 = .ok (.iload_n 2, 1) := by decide +kernel
theorem dX5_fitsPerson_1 : decode cX5_fitsPerson 1 = .ok (.iconst 4, 1) := by decide +kernel
theorem dX5_fitsPerson_2 : decode cX5_fitsPerson 2 = .ok (.irem, 1) := by decide +kernel
theorem dX5_fitsPerson_3 : decode cX5_fitsPerson 3 = .ok (.tableswitch 57 0 2 #[25, 39, 48], 25) := by decide +kernel
theorem dX5_fitsPerson_28 : decode cX5_fitsPerson 28 = .ok (.aload_n 0, 1) := by decide +kernel
theorem dX5_fitsPerson_29 : decode cX5_fitsPerson 29 = .ok (.iload_n 1, 1) := by decide +kernel
theorem dX5_fitsPerson_30 : decode cX5_fitsPerson 30 = .ok (.invokevirtual 55, 3) := by decide +kernel
theorem dX5_fitsPerson_33 : decode cX5_fitsPerson 33 = .ok (.ifCond .lt 7, 3) := by decide +kernel
theorem dX5_fitsPerson_36 : decode cX5_fitsPerson 36 = .ok (.iconst 1, 1) := by decide +kernel
theorem dX5_fitsPerson_37 : decode cX5_fitsPerson 37 = .ok (.goto 4, 3) := by decide +kernel
theorem dX5_fitsPerson_40 : decode cX5_fitsPerson 40 = .ok (.iconst 0, 1) := by decide +kernel
theorem dX5_fitsPerson_41 : decode cX5_fitsPerson 41 = .ok (.ireturn, 1) := by decide +kernel
theorem dX5_fitsPerson_42 : decode cX5_fitsPerson 42 = .ok (.aload_n 0, 1) := by decide +kernel
theorem dX5_fitsPerson_43 : decode cX5_fitsPerson 43 = .ok (.iload_n 1, 1) := by decide +kernel
theorem dX5_fitsPerson_44 : decode cX5_fitsPerson 44 = .ok (.iconst 0, 1) := by decide +kernel
theorem dX5_fitsPerson_45 : decode cX5_fitsPerson 45 = .ok (.bipush 9, 2) := by decide +kernel
theorem dX5_fitsPerson_47 : decode cX5_fitsPerson 47 = .ok (.invokevirtual 41, 3) := by decide +kernel
theorem dX5_fitsPerson_50 : decode cX5_fitsPerson 50 = .ok (.ireturn, 1) := by decide +kernel
theorem dX5_fitsPerson_51 : decode cX5_fitsPerson 51 = .ok (.aload_n 0, 1) := by decide +kernel
theorem dX5_fitsPerson_52 : decode cX5_fitsPerson 52 = .ok (.iload_n 1, 1) := by decide +kernel
theorem dX5_fitsPerson_53 : decode cX5_fitsPerson 53 = .ok (.iconst 0, 1) := by decide +kernel
theorem dX5_fitsPerson_54 : decode cX5_fitsPerson 54 = .ok (.bipush 9, 2) := by decide +kernel
theorem dX5_fitsPerson_56 : decode cX5_fitsPerson 56 = .ok (.invokevirtual 41, 3) := by decide +kernel
theorem dX5_fitsPerson_59 : decode cX5_fitsPerson 59 = .ok (.ireturn, 1) := by decide +kernel
theorem dX5_fitsPerson_60 : decode cX5_fitsPerson 60 = .ok (.aload_n 0, 1) := by decide +kernel
theorem dX5_fitsPerson_61 : decode cX5_fitsPerson 61 = .ok (.iload_n 1, 1) := by decide +kernel
theorem dX5_fitsPerson_62 : decode cX5_fitsPerson 62 = .ok (.invokevirtual 19, 3) := by decide +kernel
theorem dX5_fitsPerson_65 : decode cX5_fitsPerson 65 = .ok (.bipush 44, 2) := by decide +kernel
theorem dX5_fitsPerson_67 : decode cX5_fitsPerson 67 = .ok (.if_icmp .ne 13, 3) := by decide +kernel
theorem dX5_fitsPerson_70 : decode cX5_fitsPerson 70 = .ok (.iload_n 2, 1) := by decide +kernel
theorem dX5_fitsPerson_71 : decode cX5_fitsPerson 71 = .ok (.bipush 16, 2) := by decide +kernel
theorem dX5_fitsPerson_73 : decode cX5_fitsPerson 73 = .ok (.if_icmp .ge 7, 3) := by decide +kernel
theorem dX5_fitsPerson_76 : decode cX5_fitsPerson 76 = .ok (.iconst 1, 1) := by decide +kernel
theorem dX5_fitsPerson_77 : decode cX5_fitsPerson 77 = .ok (.goto 4, 3) := by decide +kernel
theorem dX5_fitsPerson_80 : decode cX5_fitsPerson 80 = .ok (.iconst 0, 1) := by decide +kernel
theorem dX5_fitsPerson_81 : decode cX5_fitsPerson 81 = .ok (.ireturn, 1) := by decide +kernel
set_option maxRecDepth 20000 in
theorem ggX5_isDigit_X5_codeAt : GoodIn wsX5_isDigit wsX5_codeAt := goodIn_r _ [5, 6, 7, 8, 9] (by decide +kernel) (by decide +kernel)
set_option maxRecDepth 20000 in
theorem gX5_isDigit_X5_codeAt : GoodIn wsX5_isDigit (wsV RX5 19 RX5 yX5_codeAt wsX5_codeAt) := goodIn_app (goodIn_of _ (by decide +kernel)) ggX5_isDigit_X5_codeAt
theorem dX5_isDigit_0 : decode cX5_isDigit 0 = .ok (.aload_n 0, 1) := by decide +kernel
theorem dX5_isDigit_1 : decode cX5_isDigit 1 = .ok (.iload_n 1, 1) := by decide +kernel
theorem dX5_isDigit_2 : decode cX5_isDigit 2 = .ok (.invokevirtual 19, 3) := by decide +kernel
theorem dX5_isDigit_5 : decode cX5_isDigit 5 = .ok (.bipush 48, 2) := by decide +kernel
theorem dX5_isDigit_7 : decode cX5_isDigit 7 = .ok (.isub, 1) := by decide +kernel
theorem dX5_isDigit_8 : decode cX5_isDigit 8 = .ok (.istore 4, 2) := by decide +kernel
theorem dX5_isDigit_10 : decode cX5_isDigit 10 = .ok (.iload 4, 2) := by decide +kernel
theorem dX5_isDigit_12 : decode cX5_isDigit 12 = .ok (.iload_n 2, 1) := by decide +kernel
theorem dX5_isDigit_13 : decode cX5_isDigit 13 = .ok (.if_icmp .lt 13, 3) := by decide +kernel
theorem dX5_isDigit_16 : decode cX5_isDigit 16 = .ok (.iload 4, 2) := by decide +kernel
theorem dX5_isDigit_18 : decode cX5_isDigit 18 = .ok (.iload_n 3, 1) := by decide +kernel
theorem dX5_isDigit_19 : decode cX5_isDigit 19 = .ok (.if_icmp .gt 7, 3) := by decide +kernel
theorem dX5_isDigit_22 : decode cX5_isDigit 22 = .ok (.iconst 1, 1) := by decide +kernel
theorem dX5_isDigit_23 : decode cX5_isDigit 23 = .ok (.goto 4, 3) := by decide +kernel
theorem dX5_isDigit_26 : decode cX5_isDigit 26 = .ok (.iconst 0, 1) := by decide +kernel
theorem dX5_isDigit_27 : decode cX5_isDigit 27 = .ok (.ireturn, 1) := by decide +kernel
theorem dX6_init_0 : decode cX6_init 0 = .ok (.aload_n 0, 1) := by decide +kernel
theorem dX6_init_1 : decode cX6_init 1 = .ok (.invokespecial 3, 3) := by decide +kernel
theorem dX6_init_4 : decode cX6_init 4 = .ok (.aload_n 0, 1) := by decide +kernel
theorem dX6_init_5 : decode cX6_init 5 = .ok (.iconst 5, 1) := by decide +kernel
theorem dX6_init_6 : decode cX6_init 6 = .ok (.iconst 5, 1) := by decide +kernel
theorem dX6_init_7 : decode cX6_init 7 = .ok (.multianewarray 9 2, 4) := by decide +kernel
theorem dX6_init_11 : decode cX6_init 11 = .ok (.putfield 11, 3) := by decide +kernel
theorem dX6_init_14 : decode cX6_init 14 = .ok (.aload_n 0, 1) := by decide +kernel
theorem dX6_init_15 : decode cX6_init 15 = .ok (.iconst 5, 1) := by decide +kernel
theorem dX6_init_16 : decode cX6_init 16 = .ok (.newarray .int, 2) := by decide +kernel
theorem dX6_init_18 : decode cX6_init 18 = .ok (.putfield 16, 3) := by decide +kernel
theorem dX6_init_21 : decode cX6_init 21 = .ok (.aload_n 0, 1) := by decide +kernel
theorem dX6_init_22 : decode cX6_init 22 = .ok (.iconst 5, 1) := by decide +kernel
theorem dX6_init_23 : decode cX6_init 23 = .ok (.newarray .int, 2) := by decide +kernel
theorem dX6_init_25 : decode cX6_init 25 = .ok (.putfield 20, 3) := by decide +kernel
theorem dX6_init_28 : decode cX6_init 28 = .ok (.return_, 1) := by decide +kernel
set_option maxRecDepth 20000 in
theorem ggX6_arrange_X2_aloneSteps : GoodIn wsX6_arrange wsX2_aloneSteps := goodIn_r _ [11, 12, 13, 14, 15, 16, 17, 10, 18, 19, 20, 21, 22, 23, 24, 25, 26, 27, 28, 29, 30, 31, 32, 33, 34, 35, 36, 37, 38, 39, 40, 41, 42, 43, 44, 45, 46, 47, 48, 49, 50, 51, 82, 83, 84, 85, 86, 87, 88, 89, 90, 91, 92, 93, 94, 95, 96, 97, 98, 99] (by decide +kernel) (by decide +kernel)
set_option maxRecDepth 20000 in
theorem gX6_arrange_X2_aloneSteps : GoodIn wsX6_arrange (wsV RX6 32 RX2 yX2_aloneSteps wsX2_aloneSteps) := goodIn_app (goodIn_of _ (by decide +kernel)) ggX6_arrange_X2_aloneSteps
set_option maxRecDepth 20000 in
theorem ggX6_arrange_X2_stepsOf : GoodIn wsX6_arrange wsX2_stepsOf := goodIn_r _ [55, 14, 56, 57, 58, 10, 59, 12, 13, 15, 16, 17, 18, 19, 20, 21, 22, 23, 24, 25, 26, 27, 28, 29, 30, 31, 32, 33, 34, 35, 36, 37, 38, 39, 40, 41, 42, 43, 44, 45, 46, 47, 48, 49, 50, 51, 82, 83, 84, 85, 86, 87, 88, 89, 90, 91, 92, 93, 94, 95, 96, 97, 98, 99] (by decide +kernel) (by decide +kernel)
set_option maxRecDepth 20000 in
theorem gX6_arrange_X2_stepsOf : GoodIn wsX6_arrange (wsV RX6 36 RX2 yX2_stepsOf wsX2_stepsOf) := goodIn_app (goodIn_of _ (by decide +kernel)) ggX6_arrange_X2_stepsOf
set_option maxRecDepth 20000 in
theorem ggX6_arrange_X6_arrangeFrom : GoodIn wsX6_arrange wsX6_arrangeFrom := goodIn_r _ [63, 2, 64, 3, 65, 66, 67, 68, 69, 70, 71, 62, 72, 5, 6, 73, 74, 75, 76, 77, 78, 79, 80, 81, 60, 61, 100, 101, 102, 103, 104, 105] (by decide +kernel) (by decide +kernel)
set_option maxRecDepth 20000 in
theorem gX6_arrange_X6_arrangeFrom : GoodIn wsX6_arrange (va_wsS RX6 47 yX6_arrangeFrom wsX6_arrangeFrom) := goodIn_app (goodIn_of _ (by decide +kernel)) ggX6_arrange_X6_arrangeFrom
theorem dX6_arrange_0 : decode cX6_arrange 0 = .ok (.aload_n 0, 1) := by decide +kernel
theorem dX6_arrange_1 : decode cX6_arrange 1 = .ok (.aload_n 1, 1) := by decide +kernel
theorem dX6_arrange_2 : decode cX6_arrange 2 = .ok (.getfield 23, 3) := by decide +kernel
theorem dX6_arrange_5 : decode cX6_arrange 5 = .ok (.putfield 29, 3) := by decide +kernel
theorem dX6_arrange_8 : decode cX6_arrange 8 = .ok (.iconst 0, 1) := by decide +kernel
theorem dX6_arrange_9 : decode cX6_arrange 9 = .ok (.istore_n 3, 1) := by decide +kernel
theorem dX6_arrange_10 : decode cX6_arrange 10 = .ok (.iload_n 3, 1) := by decide +kernel
theorem dX6_arrange_11 : decode cX6_arrange 11 = .ok (.aload_n 0, 1) := by decide +kernel
theorem dX6_arrange_12 : decode cX6_arrange 12 = .ok (.getfield 29, 3) := by decide +kernel
theorem dX6_arrange_15 : decode cX6_arrange 15 = .ok (.if_icmp .ge 60, 3) := by decide +kernel
theorem dX6_arrange_18 : decode cX6_arrange 18 = .ok (.aload_n 0, 1) := by decide +kernel
theorem dX6_arrange_19 : decode cX6_arrange 19 = .ok (.getfield 11, 3) := by decide +kernel
theorem dX6_arrange_22 : decode cX6_arrange 22 = .ok (.iload_n 3, 1) := by decide +kernel
theorem dX6_arrange_23 : decode cX6_arrange 23 = .ok (.aaload, 1) := by decide +kernel
theorem dX6_arrange_24 : decode cX6_arrange 24 = .ok (.iload_n 3, 1) := by decide +kernel
theorem dX6_arrange_25 : decode cX6_arrange 25 = .ok (.aload_n 1, 1) := by decide +kernel
theorem dX6_arrange_26 : decode cX6_arrange 26 = .ok (.iload_n 3, 1) := by decide +kernel
theorem dX6_arrange_27 : decode cX6_arrange 27 = .ok (.iload_n 2, 1) := by decide +kernel
theorem dX6_arrange_28 : decode cX6_arrange 28 = .ok (.invokevirtual 32, 3) := by decide +kernel
theorem dX6_arrange_31 : decode cX6_arrange 31 = .ok (.iastore, 1) := by decide +kernel
theorem dX6_arrange_32 : decode cX6_arrange 32 = .ok (.iload_n 3, 1) := by decide +kernel
theorem dX6_arrange_33 : decode cX6_arrange 33 = .ok (.iconst 1, 1) := by decide +kernel
theorem dX6_arrange_34 : decode cX6_arrange 34 = .ok (.iadd, 1) := by decide +kernel
theorem dX6_arrange_35 : decode cX6_arrange 35 = .ok (.istore 4, 2) := by decide +kernel
theorem dX6_arrange_37 : decode cX6_arrange 37 = .ok (.iload 4, 2) := by decide +kernel
theorem dX6_arrange_39 : decode cX6_arrange 39 = .ok (.aload_n 0, 1) := by decide +kernel
theorem dX6_arrange_40 : decode cX6_arrange 40 = .ok (.getfield 29, 3) := by decide +kernel
theorem dX6_arrange_43 : decode cX6_arrange 43 = .ok (.if_icmp .ge 26, 3) := by decide +kernel
theorem dX6_arrange_46 : decode cX6_arrange 46 = .ok (.aload_n 0, 1) := by decide +kernel
theorem dX6_arrange_47 : decode cX6_arrange 47 = .ok (.getfield 11, 3) := by decide +kernel
theorem dX6_arrange_50 : decode cX6_arrange 50 = .ok (.iload_n 3, 1) := by decide +kernel
theorem dX6_arrange_51 : decode cX6_arrange 51 = .ok (.aaload, 1) := by decide +kernel
theorem dX6_arrange_52 : decode cX6_arrange 52 = .ok (.iload 4, 2) := by decide +kernel
theorem dX6_arrange_54 : decode cX6_arrange 54 = .ok (.aload_n 1, 1) := by decide +kernel
theorem dX6_arrange_55 : decode cX6_arrange 55 = .ok (.iload_n 3, 1) := by decide +kernel
theorem dX6_arrange_56 : decode cX6_arrange 56 = .ok (.iload_n 2, 1) := by decide +kernel
theorem dX6_arrange_57 : decode cX6_arrange 57 = .ok (.iload 4, 2) := by decide +kernel
theorem dX6_arrange_59 : decode cX6_arrange 59 = .ok (.invokevirtual 36, 3) := by decide +kernel
theorem dX6_arrange_62 : decode cX6_arrange 62 = .ok (.iastore, 1) := by decide +kernel
theorem dX6_arrange_63 : decode cX6_arrange 63 = .ok (.iinc 4 1, 3) := by decide +kernel
theorem dX6_arrange_66 : decode cX6_arrange 66 = .ok (.goto (-29), 3) := by decide +kernel
theorem dX6_arrange_69 : decode cX6_arrange 69 = .ok (.iinc 3 1, 3) := by decide +kernel
theorem dX6_arrange_72 : decode cX6_arrange 72 = .ok (.goto (-62), 3) := by decide +kernel
theorem dX6_arrange_75 : decode cX6_arrange 75 = .ok (.aload_n 0, 1) := by decide +kernel
theorem dX6_arrange_76 : decode cX6_arrange 76 = .ok (.ldc 40, 2) := by decide +kernel
theorem dX6_arrange_78 : decode cX6_arrange 78 = .ok (.putfield 41, 3) := by decide +kernel
theorem dX6_arrange_81 : decode cX6_arrange 81 = .ok (.aload_n 0, 1) := by decide +kernel
theorem dX6_arrange_82 : decode cX6_arrange 82 = .ok (.ldc 40, 2) := by decide +kernel
theorem dX6_arrange_84 : decode cX6_arrange 84 = .ok (.putfield 44, 3) := by decide +kernel
theorem dX6_arrange_87 : decode cX6_arrange 87 = .ok (.aload_n 0, 1) := by decide +kernel
theorem dX6_arrange_88 : decode cX6_arrange 88 = .ok (.iconst 0, 1) := by decide +kernel
theorem dX6_arrange_89 : decode cX6_arrange 89 = .ok (.iconst 0, 1) := by decide +kernel
theorem dX6_arrange_90 : decode cX6_arrange 90 = .ok (.iconst 0, 1) := by decide +kernel
theorem dX6_arrange_91 : decode cX6_arrange 91 = .ok (.iconst 0, 1) := by decide +kernel
theorem dX6_arrange_92 : decode cX6_arrange 92 = .ok (.invokestatic 47, 3) := by decide +kernel
theorem dX6_arrange_95 : decode cX6_arrange 95 = .ok (.return_, 1) := by decide +kernel
set_option maxRecDepth 20000 in
theorem ggX6_arrangeFrom_X6_isBetter : GoodIn wsX6_arrangeFrom wsX6_isBetter := goodIn_r _ [12, 13, 14, 26, 27, 28, 29, 30, 31] (by decide +kernel) (by decide +kernel)
set_option maxRecDepth 20000 in
theorem gX6_arrangeFrom_X6_isBetter : GoodIn wsX6_arrangeFrom (wsV RX6 51 RX6 yX6_isBetter wsX6_isBetter) := goodIn_app (goodIn_of _ (by decide +kernel)) ggX6_arrangeFrom_X6_isBetter
set_option maxRecDepth 20000 in
theorem ggX6_arrangeFrom_X6_keep : GoodIn wsX6_arrangeFrom wsX6_keep := goodIn_r _ [18, 13, 14, 2, 19, 20, 21, 22, 23, 26, 27, 28, 29, 30, 31] (by decide +kernel) (by decide +kernel)
set_option maxRecDepth 20000 in
theorem gX6_arrangeFrom_X6_keep : GoodIn wsX6_arrangeFrom (wsV RX6 55 RX6 yX6_keep wsX6_keep) := goodIn_app (goodIn_of _ (by decide +kernel)) ggX6_arrangeFrom_X6_keep
set_option maxRecDepth 20000 in
theorem ggX6_arrangeFrom_X6_arrangeFrom : GoodIn wsX6_arrangeFrom wsX6_arrangeFrom := goodIn_r _ [0, 1, 2, 3, 4, 5, 6, 7, 8, 9, 10, 11, 12, 13, 14, 15, 16, 17, 18, 19, 20, 21, 22, 23, 24, 25, 26, 27, 28, 29, 30, 31] (by decide +kernel) (by decide +kernel)
set_option maxRecDepth 20000 in
theorem gX6_arrangeFrom_X6_arrangeFrom : GoodIn wsX6_arrangeFrom (va_wsS RX6 47 yX6_arrangeFrom wsX6_arrangeFrom) := goodIn_app (goodIn_of _ (by decide +kernel)) ggX6_arrangeFrom_X6_arrangeFrom
theorem dX6_arrangeFrom_0 : decode cX6_arrangeFrom 0 = .ok (.aload_n 0, 1) := by decide +kernel
theorem dX6_arrangeFrom_1 : decode cX6_arrangeFrom 1 = .ok (.iload_n 3, 1) := by decide +kernel
theorem dX6_arrangeFrom_2 : decode cX6_arrangeFrom 2 = .ok (.iload 4, 2) := by decide +kernel
theorem dX6_arrangeFrom_4 : decode cX6_arrangeFrom 4 = .ok (.invokevirtual 51, 3) := by decide +kernel
theorem dX6_arrangeFrom_7 : decode cX6_arrangeFrom 7 = .ok (.ifCond .ne 4, 3) := by decide +kernel
theorem dX6_arrangeFrom_10 : decode cX6_arrangeFrom 10 = .ok (.return_, 1) := by decide +kernel
theorem dX6_arrangeFrom_11 : decode cX6_arrangeFrom 11 = .ok (.iload_n 1, 1) := by decide +kernel
theorem dX6_arrangeFrom_12 : decode cX6_arrangeFrom 12 = .ok (.aload_n 0, 1) := by decide +kernel
theorem dX6_arrangeFrom_13 : decode cX6_arrangeFrom 13 = .ok (.getfield 29, 3) := by decide +kernel
theorem dX6_arrangeFrom_16 : decode cX6_arrangeFrom 16 = .ok (.if_icmp .ge 8, 3) := by decide +kernel
theorem dX6_arrangeFrom_19 : decode cX6_arrangeFrom 19 = .ok (.iload_n 1, 1) := by decide +kernel
theorem dX6_arrangeFrom_20 : decode cX6_arrangeFrom 20 = .ok (.iconst 5, 1) := by decide +kernel
theorem dX6_arrangeFrom_21 : decode cX6_arrangeFrom 21 = .ok (.if_icmp .lt 11, 3) := by decide +kernel
theorem dX6_arrangeFrom_24 : decode cX6_arrangeFrom 24 = .ok (.aload_n 0, 1) := by decide +kernel
theorem dX6_arrangeFrom_25 : decode cX6_arrangeFrom 25 = .ok (.iload_n 3, 1) := by decide +kernel
theorem dX6_arrangeFrom_26 : decode cX6_arrangeFrom 26 = .ok (.iload 4, 2) := by decide +kernel
theorem dX6_arrangeFrom_28 : decode cX6_arrangeFrom 28 = .ok (.invokevirtual 55, 3) := by decide +kernel
theorem dX6_arrangeFrom_31 : decode cX6_arrangeFrom 31 = .ok (.return_, 1) := by decide +kernel
theorem dX6_arrangeFrom_32 : decode cX6_arrangeFrom 32 = .ok (.iload_n 2, 1) := by decide +kernel
theorem dX6_arrangeFrom_33 : decode cX6_arrangeFrom 33 = .ok (.iload_n 1, 1) := by decide +kernel
theorem dX6_arrangeFrom_34 : decode cX6_arrangeFrom 34 = .ok (.ishr, 1) := by decide +kernel
theorem dX6_arrangeFrom_35 : decode cX6_arrangeFrom 35 = .ok (.iconst 1, 1) := by decide +kernel
theorem dX6_arrangeFrom_36 : decode cX6_arrangeFrom 36 = .ok (.iand, 1) := by decide +kernel
theorem dX6_arrangeFrom_37 : decode cX6_arrangeFrom 37 = .ok (.ifCond .eq 15, 3) := by decide +kernel
theorem dX6_arrangeFrom_40 : decode cX6_arrangeFrom 40 = .ok (.aload_n 0, 1) := by decide +kernel
theorem dX6_arrangeFrom_41 : decode cX6_arrangeFrom 41 = .ok (.iload_n 1, 1) := by decide +kernel
theorem dX6_arrangeFrom_42 : decode cX6_arrangeFrom 42 = .ok (.iconst 1, 1) := by decide +kernel
theorem dX6_arrangeFrom_43 : decode cX6_arrangeFrom 43 = .ok (.iadd, 1) := by decide +kernel
theorem dX6_arrangeFrom_44 : decode cX6_arrangeFrom 44 = .ok (.iload_n 2, 1) := by decide +kernel
theorem dX6_arrangeFrom_45 : decode cX6_arrangeFrom 45 = .ok (.iload_n 3, 1) := by decide +kernel
theorem dX6_arrangeFrom_46 : decode cX6_arrangeFrom 46 = .ok (.iload 4, 2) := by decide +kernel
theorem dX6_arrangeFrom_48 : decode cX6_arrangeFrom 48 = .ok (.invokestatic 47, 3) := by decide +kernel
theorem dX6_arrangeFrom_51 : decode cX6_arrangeFrom 51 = .ok (.return_, 1) := by decide +kernel
theorem dX6_arrangeFrom_52 : decode cX6_arrangeFrom 52 = .ok (.aload_n 0, 1) := by decide +kernel
theorem dX6_arrangeFrom_53 : decode cX6_arrangeFrom 53 = .ok (.getfield 16, 3) := by decide +kernel
theorem dX6_arrangeFrom_56 : decode cX6_arrangeFrom 56 = .ok (.iload_n 1, 1) := by decide +kernel
theorem dX6_arrangeFrom_57 : decode cX6_arrangeFrom 57 = .ok (.iconst (-1), 1) := by decide +kernel
theorem dX6_arrangeFrom_58 : decode cX6_arrangeFrom 58 = .ok (.iastore, 1) := by decide +kernel
theorem dX6_arrangeFrom_59 : decode cX6_arrangeFrom 59 = .ok (.aload_n 0, 1) := by decide +kernel
theorem dX6_arrangeFrom_60 : decode cX6_arrangeFrom 60 = .ok (.iload_n 1, 1) := by decide +kernel
theorem dX6_arrangeFrom_61 : decode cX6_arrangeFrom 61 = .ok (.iconst 1, 1) := by decide +kernel
theorem dX6_arrangeFrom_62 : decode cX6_arrangeFrom 62 = .ok (.iadd, 1) := by decide +kernel
theorem dX6_arrangeFrom_63 : decode cX6_arrangeFrom 63 = .ok (.iload_n 2, 1) := by decide +kernel
theorem dX6_arrangeFrom_64 : decode cX6_arrangeFrom 64 = .ok (.iload_n 3, 1) := by decide +kernel
theorem dX6_arrangeFrom_65 : decode cX6_arrangeFrom 65 = .ok (.aload_n 0, 1) := by decide +kernel
theorem dX6_arrangeFrom_66 : decode cX6_arrangeFrom 66 = .ok (.getfield 11, 3) := by decide +kernel
theorem dX6_arrangeFrom_69 : decode cX6_arrangeFrom 69 = .ok (.iload_n 1, 1) := by decide +kernel
theorem dX6_arrangeFrom_70 : decode cX6_arrangeFrom 70 = .ok (.aaload, 1) := by decide +kernel
theorem dX6_arrangeFrom_71 : decode cX6_arrangeFrom 71 = .ok (.iload_n 1, 1) := by decide +kernel
theorem dX6_arrangeFrom_72 : decode cX6_arrangeFrom 72 = .ok (.iaload, 1) := by decide +kernel
theorem dX6_arrangeFrom_73 : decode cX6_arrangeFrom 73 = .ok (.invokestatic 59, 3) := by decide +kernel
theorem dX6_arrangeFrom_76 : decode cX6_arrangeFrom 76 = .ok (.iload 4, 2) := by decide +kernel
theorem dX6_arrangeFrom_78 : decode cX6_arrangeFrom 78 = .ok (.invokestatic 47, 3) := by decide +kernel
theorem dX6_arrangeFrom_81 : decode cX6_arrangeFrom 81 = .ok (.iload_n 1, 1) := by decide +kernel
theorem dX6_arrangeFrom_82 : decode cX6_arrangeFrom 82 = .ok (.iconst 1, 1) := by decide +kernel
theorem dX6_arrangeFrom_83 : decode cX6_arrangeFrom 83 = .ok (.iadd, 1) := by decide +kernel
theorem dX6_arrangeFrom_84 : decode cX6_arrangeFrom 84 = .ok (.istore 5, 2) := by decide +kernel
theorem dX6_arrangeFrom_86 : decode cX6_arrangeFrom 86 = .ok (.iload 5, 2) := by decide +kernel
theorem dX6_arrangeFrom_88 : decode cX6_arrangeFrom 88 = .ok (.aload_n 0, 1) := by decide +kernel
theorem dX6_arrangeFrom_89 : decode cX6_arrangeFrom 89 = .ok (.getfield 29, 3) := by decide +kernel
theorem dX6_arrangeFrom_92 : decode cX6_arrangeFrom 92 = .ok (.if_icmp .ge 64, 3) := by decide +kernel
theorem dX6_arrangeFrom_95 : decode cX6_arrangeFrom 95 = .ok (.iload_n 2, 1) := by decide +kernel
theorem dX6_arrangeFrom_96 : decode cX6_arrangeFrom 96 = .ok (.iload 5, 2) := by decide +kernel
theorem dX6_arrangeFrom_98 : decode cX6_arrangeFrom 98 = .ok (.ishr, 1) := by decide +kernel
theorem dX6_arrangeFrom_99 : decode cX6_arrangeFrom 99 = .ok (.iconst 1, 1) := by decide +kernel
theorem dX6_arrangeFrom_100 : decode cX6_arrangeFrom 100 = .ok (.iand, 1) := by decide +kernel
theorem dX6_arrangeFrom_101 : decode cX6_arrangeFrom 101 = .ok (.ifCond .ne 49, 3) := by decide +kernel
theorem dX6_arrangeFrom_104 : decode cX6_arrangeFrom 104 = .ok (.aload_n 0, 1) := by decide +kernel
theorem dX6_arrangeFrom_105 : decode cX6_arrangeFrom 105 = .ok (.getfield 16, 3) := by decide +kernel
theorem dX6_arrangeFrom_108 : decode cX6_arrangeFrom 108 = .ok (.iload_n 1, 1) := by decide +kernel
theorem dX6_arrangeFrom_109 : decode cX6_arrangeFrom 109 = .ok (.iload 5, 2) := by decide +kernel
theorem dX6_arrangeFrom_111 : decode cX6_arrangeFrom 111 = .ok (.iastore, 1) := by decide +kernel
theorem dX6_arrangeFrom_112 : decode cX6_arrangeFrom 112 = .ok (.aload_n 0, 1) := by decide +kernel
theorem dX6_arrangeFrom_113 : decode cX6_arrangeFrom 113 = .ok (.getfield 16, 3) := by decide +kernel
theorem dX6_arrangeFrom_116 : decode cX6_arrangeFrom 116 = .ok (.iload 5, 2) := by decide +kernel
theorem dX6_arrangeFrom_118 : decode cX6_arrangeFrom 118 = .ok (.iload_n 1, 1) := by decide +kernel
theorem dX6_arrangeFrom_119 : decode cX6_arrangeFrom 119 = .ok (.iastore, 1) := by decide +kernel
theorem dX6_arrangeFrom_120 : decode cX6_arrangeFrom 120 = .ok (.aload_n 0, 1) := by decide +kernel
theorem dX6_arrangeFrom_121 : decode cX6_arrangeFrom 121 = .ok (.iload_n 1, 1) := by decide +kernel
theorem dX6_arrangeFrom_122 : decode cX6_arrangeFrom 122 = .ok (.iconst 1, 1) := by decide +kernel
theorem dX6_arrangeFrom_123 : decode cX6_arrangeFrom 123 = .ok (.iadd, 1) := by decide +kernel
theorem dX6_arrangeFrom_124 : decode cX6_arrangeFrom 124 = .ok (.iload_n 2, 1) := by decide +kernel
theorem dX6_arrangeFrom_125 : decode cX6_arrangeFrom 125 = .ok (.iconst 1, 1) := by decide +kernel
theorem dX6_arrangeFrom_126 : decode cX6_arrangeFrom 126 = .ok (.iload 5, 2) := by decide +kernel
theorem dX6_arrangeFrom_128 : decode cX6_arrangeFrom 128 = .ok (.ishl, 1) := by decide +kernel
theorem dX6_arrangeFrom_129 : decode cX6_arrangeFrom 129 = .ok (.ior, 1) := by decide +kernel
theorem dX6_arrangeFrom_130 : decode cX6_arrangeFrom 130 = .ok (.iload_n 3, 1) := by decide +kernel
theorem dX6_arrangeFrom_131 : decode cX6_arrangeFrom 131 = .ok (.aload_n 0, 1) := by decide +kernel
theorem dX6_arrangeFrom_132 : decode cX6_arrangeFrom 132 = .ok (.getfield 11, 3) := by decide +kernel
theorem dX6_arrangeFrom_135 : decode cX6_arrangeFrom 135 = .ok (.iload_n 1, 1) := by decide +kernel
theorem dX6_arrangeFrom_136 : decode cX6_arrangeFrom 136 = .ok (.aaload, 1) := by decide +kernel
theorem dX6_arrangeFrom_137 : decode cX6_arrangeFrom 137 = .ok (.iload 5, 2) := by decide +kernel
theorem dX6_arrangeFrom_139 : decode cX6_arrangeFrom 139 = .ok (.iaload, 1) := by decide +kernel
theorem dX6_arrangeFrom_140 : decode cX6_arrangeFrom 140 = .ok (.invokestatic 59, 3) := by decide +kernel
theorem dX6_arrangeFrom_143 : decode cX6_arrangeFrom 143 = .ok (.iload 4, 2) := by decide +kernel
theorem dX6_arrangeFrom_145 : decode cX6_arrangeFrom 145 = .ok (.iconst 1, 1) := by decide +kernel
theorem dX6_arrangeFrom_146 : decode cX6_arrangeFrom 146 = .ok (.iadd, 1) := by decide +kernel
theorem dX6_arrangeFrom_147 : decode cX6_arrangeFrom 147 = .ok (.invokestatic 47, 3) := by decide +kernel
theorem dX6_arrangeFrom_150 : decode cX6_arrangeFrom 150 = .ok (.iinc 5 1, 3) := by decide +kernel
theorem dX6_arrangeFrom_153 : decode cX6_arrangeFrom 153 = .ok (.goto (-67), 3) := by decide +kernel
theorem dX6_arrangeFrom_156 : decode cX6_arrangeFrom 156 = .ok (.return_, 1) := by decide +kernel
theorem dX6_isBetter_0 : decode cX6_isBetter 0 = .ok (.iload_n 1, 1) := by decide +kernel
theorem dX6_isBetter_1 : decode cX6_isBetter 1 = .ok (.aload_n 0, 1) := by decide +kernel
theorem dX6_isBetter_2 : decode cX6_isBetter 2 = .ok (.getfield 41, 3) := by decide +kernel
theorem dX6_isBetter_5 : decode cX6_isBetter 5 = .ok (.if_icmp .lt 19, 3) := by decide +kernel
theorem dX6_isBetter_8 : decode cX6_isBetter 8 = .ok (.iload_n 1, 1) := by decide +kernel
theorem dX6_isBetter_9 : decode cX6_isBetter 9 = .ok (.aload_n 0, 1) := by decide +kernel
theorem dX6_isBetter_10 : decode cX6_isBetter 10 = .ok (.getfield 41, 3) := by decide +kernel
theorem dX6_isBetter_13 : decode cX6_isBetter 13 = .ok (.if_icmp .ne 15, 3) := by decide +kernel
theorem dX6_isBetter_16 : decode cX6_isBetter 16 = .ok (.iload_n 2, 1) := by decide +kernel
theorem dX6_isBetter_17 : decode cX6_isBetter 17 = .ok (.aload_n 0, 1) := by decide +kernel
theorem dX6_isBetter_18 : decode cX6_isBetter 18 = .ok (.getfield 44, 3) := by decide +kernel
theorem dX6_isBetter_21 : decode cX6_isBetter 21 = .ok (.if_icmp .ge 7, 3) := by decide +kernel
theorem dX6_isBetter_24 : decode cX6_isBetter 24 = .ok (.iconst 1, 1) := by decide +kernel
theorem dX6_isBetter_25 : decode cX6_isBetter 25 = .ok (.goto 4, 3) := by decide +kernel
theorem dX6_isBetter_28 : decode cX6_isBetter 28 = .ok (.iconst 0, 1) := by decide +kernel
theorem dX6_isBetter_29 : decode cX6_isBetter 29 = .ok (.ireturn, 1) := by decide +kernel
theorem dX6_keep_0 : decode cX6_keep 0 = .ok (.aload_n 0, 1) := by decide +kernel
theorem dX6_keep_1 : decode cX6_keep 1 = .ok (.iload_n 1, 1) := by decide +kernel
theorem dX6_keep_2 : decode cX6_keep 2 = .ok (.putfield 41, 3) := by decide +kernel
theorem dX6_keep_5 : decode cX6_keep 5 = .ok (.aload_n 0, 1) := by decide +kernel
theorem dX6_keep_6 : decode cX6_keep 6 = .ok (.iload_n 2, 1) := by decide +kernel
theorem dX6_keep_7 : decode cX6_keep 7 = .ok (.putfield 44, 3) := by decide +kernel
theorem dX6_keep_10 : decode cX6_keep 10 = .ok (.aload_n 0, 1) := by decide +kernel
theorem dX6_keep_11 : decode cX6_keep 11 = .ok (.getfield 16, 3) := by decide +kernel
theorem dX6_keep_14 : decode cX6_keep 14 = .ok (.iconst 0, 1) := by decide +kernel
theorem dX6_keep_15 : decode cX6_keep 15 = .ok (.aload_n 0, 1) := by decide +kernel
theorem dX6_keep_16 : decode cX6_keep 16 = .ok (.getfield 20, 3) := by decide +kernel
theorem dX6_keep_19 : decode cX6_keep 19 = .ok (.iconst 0, 1) := by decide +kernel
theorem dX6_keep_20 : decode cX6_keep 20 = .ok (.iconst 5, 1) := by decide +kernel
theorem dX6_keep_21 : decode cX6_keep 21 = .ok (.invokestatic 64, 3) := by decide +kernel
theorem dX6_keep_24 : decode cX6_keep 24 = .ok (.return_, 1) := by decide +kernel
set_option maxRecDepth 20000 in
theorem ggX6_partnerOf_X2_hasPerson : GoodIn wsX6_partnerOf wsX2_hasPerson := goodIn_r _ [6, 7, 14, 15, 16, 17, 18, 19, 20, 21, 22, 23, 24, 25, 26, 27, 28, 29, 30, 31] (by decide +kernel) (by decide +kernel)
set_option maxRecDepth 20000 in
theorem gX6_partnerOf_X2_hasPerson : GoodIn wsX6_partnerOf (wsV RX6 70 RX2 yX2_hasPerson wsX2_hasPerson) := goodIn_app (goodIn_of _ (by decide +kernel)) ggX6_partnerOf_X2_hasPerson
theorem dX6_partnerOf_0 : decode cX6_partnerOf 0 = .ok (.aload_n 1, 1) := by decide +kernel
theorem dX6_partnerOf_1 : decode cX6_partnerOf 1 = .ok (.iload_n 2, 1) := by decide +kernel
theorem dX6_partnerOf_2 : decode cX6_partnerOf 2 = .ok (.invokevirtual 70, 3) := by decide +kernel
theorem dX6_partnerOf_5 : decode cX6_partnerOf 5 = .ok (.ifCond .eq 12, 3) := by decide +kernel
theorem dX6_partnerOf_8 : decode cX6_partnerOf 8 = .ok (.aload_n 0, 1) := by decide +kernel
theorem dX6_partnerOf_9 : decode cX6_partnerOf 9 = .ok (.getfield 20, 3) := by decide +kernel
theorem dX6_partnerOf_12 : decode cX6_partnerOf 12 = .ok (.iload_n 2, 1) := by decide +kernel
theorem dX6_partnerOf_13 : decode cX6_partnerOf 13 = .ok (.iaload, 1) := by decide +kernel
theorem dX6_partnerOf_14 : decode cX6_partnerOf 14 = .ok (.goto 4, 3) := by decide +kernel
theorem dX6_partnerOf_17 : decode cX6_partnerOf 17 = .ok (.iconst (-1), 1) := by decide +kernel
theorem dX6_partnerOf_18 : decode cX6_partnerOf 18 = .ok (.ireturn, 1) := by decide +kernel
set_option maxRecDepth 20000 in
theorem ggX7_possibleLies_X7_isAsSeen : GoodIn wsX7_possibleLies wsX7_isAsSeen := goodIn_r _ [4, 5, 6, 7, 8, 9, 10, 11, 12, 13, 14, 15, 16, 17, 18, 19, 20, 21, 22, 23, 24, 25, 26, 27, 28, 29, 30, 31, 32, 33, 34, 35, 36, 37, 38, 39, 40, 41, 42, 43, 44, 45, 46, 47, 48, 49, 50, 51, 52, 53, 54, 55, 56, 57, 58, 59, 60, 61, 62, 63, 64, 65, 66, 67, 68, 69, 70, 71, 72] (by decide +kernel) (by decide +kernel)
set_option maxRecDepth 20000 in
theorem gX7_possibleLies_X7_isAsSeen : GoodIn wsX7_possibleLies (va_wsS RX7 9 yX7_isAsSeen wsX7_isAsSeen) := goodIn_app (goodIn_of _ (by decide +kernel)) ggX7_possibleLies_X7_isAsSeen
theorem dX7_possibleLies_0 : decode cX7_possibleLies 0 = .ok (.iconst 0, 1) := by decide +kernel
theorem dX7_possibleLies_1 : decode cX7_possibleLies 1 = .ok (.istore_n 2, 1) := by decide +kernel
theorem dX7_possibleLies_2 : decode cX7_possibleLies 2 = .ok (.iconst 0, 1) := by decide +kernel
theorem dX7_possibleLies_3 : decode cX7_possibleLies 3 = .ok (.istore_n 3, 1) := by decide +kernel
theorem dX7_possibleLies_4 : decode cX7_possibleLies 4 = .ok (.iload_n 3, 1) := by decide +kernel
theorem dX7_possibleLies_5 : decode cX7_possibleLies 5 = .ok (.bipush 9, 2) := by decide +kernel
theorem dX7_possibleLies_7 : decode cX7_possibleLies 7 = .ok (.if_icmp .gt 24, 3) := by decide +kernel
theorem dX7_possibleLies_10 : decode cX7_possibleLies 10 = .ok (.aload_n 0, 1) := by decide +kernel
theorem dX7_possibleLies_11 : decode cX7_possibleLies 11 = .ok (.iload_n 1, 1) := by decide +kernel
theorem dX7_possibleLies_12 : decode cX7_possibleLies 12 = .ok (.iload_n 3, 1) := by decide +kernel
theorem dX7_possibleLies_13 : decode cX7_possibleLies 13 = .ok (.invokestatic 9, 3) := by decide +kernel
theorem dX7_possibleLies_16 : decode cX7_possibleLies 16 = .ok (.ifCond .eq 9, 3) := by decide +kernel
theorem dX7_possibleLies_19 : decode cX7_possibleLies 19 = .ok (.iload_n 2, 1) := by decide +kernel
theorem dX7_possibleLies_20 : decode cX7_possibleLies 20 = .ok (.iconst 1, 1) := by decide +kernel
theorem dX7_possibleLies_21 : decode cX7_possibleLies 21 = .ok (.iload_n 3, 1) := by decide +kernel
theorem dX7_possibleLies_22 : decode cX7_possibleLies 22 = .ok (.ishl, 1) := by decide +kernel
theorem dX7_possibleLies_23 : decode cX7_possibleLies 23 = .ok (.ior, 1) := by decide +kernel
theorem dX7_possibleLies_24 : decode cX7_possibleLies 24 = .ok (.istore_n 2, 1) := by decide +kernel
theorem dX7_possibleLies_25 : decode cX7_possibleLies 25 = .ok (.iinc 3 1, 3) := by decide +kernel
theorem dX7_possibleLies_28 : decode cX7_possibleLies 28 = .ok (.goto (-24), 3) := by decide +kernel
theorem dX7_possibleLies_31 : decode cX7_possibleLies 31 = .ok (.iload_n 2, 1) := by decide +kernel
theorem dX7_possibleLies_32 : decode cX7_possibleLies 32 = .ok (.ireturn, 1) := by decide +kernel
set_option maxRecDepth 20000 in
theorem ggX7_isAsSeen_X2_stepsWithLies : GoodIn wsX7_isAsSeen wsX2_stepsWithLies := goodIn_r _ [10, 11, 12, 13, 14, 15, 16, 9, 17, 18, 19, 20, 21, 22, 23, 24, 25, 26, 27, 28, 29, 30, 31, 32, 33, 34, 35, 36, 37, 38, 39, 40, 41, 42, 43, 44, 45, 46, 47, 48, 49, 50, 51, 52, 53, 54, 55, 56, 57, 58, 59, 60, 61, 62, 63, 64, 65, 66, 67, 68] (by decide +kernel) (by decide +kernel)
set_option maxRecDepth 20000 in
theorem gX7_isAsSeen_X2_stepsWithLies : GoodIn wsX7_isAsSeen (wsV RX7 34 RX2 yX2_stepsWithLies wsX2_stepsWithLies) := goodIn_app (goodIn_of _ (by decide +kernel)) ggX7_isAsSeen_X2_stepsWithLies
theorem dX7_isAsSeen_0 : decode cX7_isAsSeen 0 = .ok (.iconst 0, 1) := by decide +kernel
theorem dX7_isAsSeen_1 : decode cX7_isAsSeen 1 = .ok (.istore_n 3, 1) := by decide +kernel
theorem dX7_isAsSeen_2 : decode cX7_isAsSeen 2 = .ok (.iload_n 3, 1) := by decide +kernel
theorem dX7_isAsSeen_3 : decode cX7_isAsSeen 3 = .ok (.aload_n 0, 1) := by decide +kernel
theorem dX7_isAsSeen_4 : decode cX7_isAsSeen 4 = .ok (.getfield 15, 3) := by decide +kernel
theorem dX7_isAsSeen_7 : decode cX7_isAsSeen 7 = .ok (.if_icmp .ge 54, 3) := by decide +kernel
theorem dX7_isAsSeen_10 : decode cX7_isAsSeen 10 = .ok (.iload_n 3, 1) := by decide +kernel
theorem dX7_isAsSeen_11 : decode cX7_isAsSeen 11 = .ok (.bipush 6, 2) := by decide +kernel
theorem dX7_isAsSeen_13 : decode cX7_isAsSeen 13 = .ok (.if_icmp .ge 48, 3) := by decide +kernel
theorem dX7_isAsSeen_16 : decode cX7_isAsSeen 16 = .ok (.aload_n 0, 1) := by decide +kernel
theorem dX7_isAsSeen_17 : decode cX7_isAsSeen 17 = .ok (.getfield 21, 3) := by decide +kernel
theorem dX7_isAsSeen_20 : decode cX7_isAsSeen 20 = .ok (.iload_n 3, 1) := by decide +kernel
theorem dX7_isAsSeen_21 : decode cX7_isAsSeen 21 = .ok (.iaload, 1) := by decide +kernel
theorem dX7_isAsSeen_22 : decode cX7_isAsSeen 22 = .ok (.iload_n 1, 1) := by decide +kernel
theorem dX7_isAsSeen_23 : decode cX7_isAsSeen 23 = .ok (.if_icmp .ne 32, 3) := by decide +kernel
theorem dX7_isAsSeen_26 : decode cX7_isAsSeen 26 = .ok (.aload_n 0, 1) := by decide +kernel
theorem dX7_isAsSeen_27 : decode cX7_isAsSeen 27 = .ok (.getfield 25, 3) := by decide +kernel
theorem dX7_isAsSeen_30 : decode cX7_isAsSeen 30 = .ok (.iload_n 3, 1) := by decide +kernel
theorem dX7_isAsSeen_31 : decode cX7_isAsSeen 31 = .ok (.iaload, 1) := by decide +kernel
theorem dX7_isAsSeen_32 : decode cX7_isAsSeen 32 = .ok (.aload_n 0, 1) := by decide +kernel
theorem dX7_isAsSeen_33 : decode cX7_isAsSeen 33 = .ok (.iload_n 1, 1) := by decide +kernel
theorem dX7_isAsSeen_34 : decode cX7_isAsSeen 34 = .ok (.aload_n 0, 1) := by decide +kernel
theorem dX7_isAsSeen_35 : decode cX7_isAsSeen 35 = .ok (.getfield 28, 3) := by decide +kernel
theorem dX7_isAsSeen_38 : decode cX7_isAsSeen 38 = .ok (.iload_n 3, 1) := by decide +kernel
theorem dX7_isAsSeen_39 : decode cX7_isAsSeen 39 = .ok (.iaload, 1) := by decide +kernel
theorem dX7_isAsSeen_40 : decode cX7_isAsSeen 40 = .ok (.aload_n 0, 1) := by decide +kernel
theorem dX7_isAsSeen_41 : decode cX7_isAsSeen 41 = .ok (.getfield 31, 3) := by decide +kernel
theorem dX7_isAsSeen_44 : decode cX7_isAsSeen 44 = .ok (.iload_n 3, 1) := by decide +kernel
theorem dX7_isAsSeen_45 : decode cX7_isAsSeen 45 = .ok (.iaload, 1) := by decide +kernel
theorem dX7_isAsSeen_46 : decode cX7_isAsSeen 46 = .ok (.iload_n 2, 1) := by decide +kernel
theorem dX7_isAsSeen_47 : decode cX7_isAsSeen 47 = .ok (.invokevirtual 34, 3) := by decide +kernel
theorem dX7_isAsSeen_50 : decode cX7_isAsSeen 50 = .ok (.if_icmp .eq 5, 3) := by decide +kernel
theorem dX7_isAsSeen_53 : decode cX7_isAsSeen 53 = .ok (.iconst 0, 1) := by decide +kernel
theorem dX7_isAsSeen_54 : decode cX7_isAsSeen 54 = .ok (.ireturn, 1) := by decide +kernel
theorem dX7_isAsSeen_55 : decode cX7_isAsSeen 55 = .ok (.iinc 3 1, 3) := by decide +kernel
theorem dX7_isAsSeen_58 : decode cX7_isAsSeen 58 = .ok (.goto (-56), 3) := by decide +kernel
theorem dX7_isAsSeen_61 : decode cX7_isAsSeen 61 = .ok (.iconst 1, 1) := by decide +kernel
theorem dX7_isAsSeen_62 : decode cX7_isAsSeen 62 = .ok (.ireturn, 1) := by decide +kernel
set_option maxRecDepth 20000 in
theorem ggX7_bestQuestion_X7_leftAtWorst : GoodIn wsX7_bestQuestion wsX7_leftAtWorst := goodIn_r _ [6, 7, 8, 9, 10, 11, 12, 13, 14, 15, 16, 17, 18, 19, 20, 21, 22, 23, 24, 25, 26, 27, 28, 29, 30, 31, 32, 33, 34, 35, 36, 37, 38, 39, 40, 41, 42, 43, 44, 45, 46, 47, 48, 49, 50, 51, 52, 53, 54, 55, 56, 57, 58, 59, 60, 61, 62, 63, 64, 65, 66, 67, 68, 69, 70, 71, 72, 73] (by decide +kernel) (by decide +kernel)
set_option maxRecDepth 20000 in
theorem gX7_bestQuestion_X7_leftAtWorst : GoodIn wsX7_bestQuestion (va_wsS RX7 44 yX7_leftAtWorst wsX7_leftAtWorst) := goodIn_app (goodIn_of _ (by decide +kernel)) ggX7_bestQuestion_X7_leftAtWorst
theorem dX7_bestQuestion_0 : decode cX7_bestQuestion 0 = .ok (.iload_n 2, 1) := by decide +kernel
theorem dX7_bestQuestion_1 : decode cX7_bestQuestion 1 = .ok (.ifCond .ne 5, 3) := by decide +kernel
theorem dX7_bestQuestion_4 : decode cX7_bestQuestion 4 = .ok (.iconst (-1), 1) := by decide +kernel
theorem dX7_bestQuestion_5 : decode cX7_bestQuestion 5 = .ok (.ireturn, 1) := by decide +kernel
theorem dX7_bestQuestion_6 : decode cX7_bestQuestion 6 = .ok (.iconst (-1), 1) := by decide +kernel
theorem dX7_bestQuestion_7 : decode cX7_bestQuestion 7 = .ok (.istore_n 3, 1) := by decide +kernel
theorem dX7_bestQuestion_8 : decode cX7_bestQuestion 8 = .ok (.bipush 11, 2) := by decide +kernel
theorem dX7_bestQuestion_10 : decode cX7_bestQuestion 10 = .ok (.istore 4, 2) := by decide +kernel
theorem dX7_bestQuestion_12 : decode cX7_bestQuestion 12 = .ok (.iconst 0, 1) := by decide +kernel
theorem dX7_bestQuestion_13 : decode cX7_bestQuestion 13 = .ok (.istore 5, 2) := by decide +kernel
theorem dX7_bestQuestion_15 : decode cX7_bestQuestion 15 = .ok (.iload 5, 2) := by decide +kernel
theorem dX7_bestQuestion_17 : decode cX7_bestQuestion 17 = .ok (.aload_n 0, 1) := by decide +kernel
theorem dX7_bestQuestion_18 : decode cX7_bestQuestion 18 = .ok (.getfield 38, 3) := by decide +kernel
theorem dX7_bestQuestion_21 : decode cX7_bestQuestion 21 = .ok (.if_icmp .ge 70, 3) := by decide +kernel
theorem dX7_bestQuestion_24 : decode cX7_bestQuestion 24 = .ok (.iconst (-1), 1) := by decide +kernel
theorem dX7_bestQuestion_25 : decode cX7_bestQuestion 25 = .ok (.istore 6, 2) := by decide +kernel
theorem dX7_bestQuestion_27 : decode cX7_bestQuestion 27 = .ok (.iload 6, 2) := by decide +kernel
theorem dX7_bestQuestion_29 : decode cX7_bestQuestion 29 = .ok (.aload_n 0, 1) := by decide +kernel
theorem dX7_bestQuestion_30 : decode cX7_bestQuestion 30 = .ok (.getfield 41, 3) := by decide +kernel
theorem dX7_bestQuestion_33 : decode cX7_bestQuestion 33 = .ok (.if_icmp .ge 52, 3) := by decide +kernel
theorem dX7_bestQuestion_36 : decode cX7_bestQuestion 36 = .ok (.iload 6, 2) := by decide +kernel
theorem dX7_bestQuestion_38 : decode cX7_bestQuestion 38 = .ok (.iload_n 1, 1) := by decide +kernel
theorem dX7_bestQuestion_39 : decode cX7_bestQuestion 39 = .ok (.if_icmp .ne 6, 3) := by decide +kernel
theorem dX7_bestQuestion_42 : decode cX7_bestQuestion 42 = .ok (.goto 37, 3) := by decide +kernel
theorem dX7_bestQuestion_45 : decode cX7_bestQuestion 45 = .ok (.aload_n 0, 1) := by decide +kernel
theorem dX7_bestQuestion_46 : decode cX7_bestQuestion 46 = .ok (.iload_n 1, 1) := by decide +kernel
theorem dX7_bestQuestion_47 : decode cX7_bestQuestion 47 = .ok (.iload 5, 2) := by decide +kernel
theorem dX7_bestQuestion_49 : decode cX7_bestQuestion 49 = .ok (.iload 6, 2) := by decide +kernel
theorem dX7_bestQuestion_51 : decode cX7_bestQuestion 51 = .ok (.iload_n 2, 1) := by decide +kernel
theorem dX7_bestQuestion_52 : decode cX7_bestQuestion 52 = .ok (.invokestatic 44, 3) := by decide +kernel
theorem dX7_bestQuestion_55 : decode cX7_bestQuestion 55 = .ok (.istore 7, 2) := by decide +kernel
theorem dX7_bestQuestion_57 : decode cX7_bestQuestion 57 = .ok (.iload 7, 2) := by decide +kernel
theorem dX7_bestQuestion_59 : decode cX7_bestQuestion 59 = .ok (.iload 4, 2) := by decide +kernel
theorem dX7_bestQuestion_61 : decode cX7_bestQuestion 61 = .ok (.if_icmp .ge 18, 3) := by decide +kernel
theorem dX7_bestQuestion_64 : decode cX7_bestQuestion 64 = .ok (.iload 7, 2) := by decide +kernel
theorem dX7_bestQuestion_66 : decode cX7_bestQuestion 66 = .ok (.istore 4, 2) := by decide +kernel
theorem dX7_bestQuestion_68 : decode cX7_bestQuestion 68 = .ok (.bipush 10, 2) := by decide +kernel
theorem dX7_bestQuestion_70 : decode cX7_bestQuestion 70 = .ok (.iload 5, 2) := by decide +kernel
theorem dX7_bestQuestion_72 : decode cX7_bestQuestion 72 = .ok (.imul, 1) := by decide +kernel
theorem dX7_bestQuestion_73 : decode cX7_bestQuestion 73 = .ok (.iload 6, 2) := by decide +kernel
theorem dX7_bestQuestion_75 : decode cX7_bestQuestion 75 = .ok (.iadd, 1) := by decide +kernel
theorem dX7_bestQuestion_76 : decode cX7_bestQuestion 76 = .ok (.iconst 1, 1) := by decide +kernel
theorem dX7_bestQuestion_77 : decode cX7_bestQuestion 77 = .ok (.iadd, 1) := by decide +kernel
theorem dX7_bestQuestion_78 : decode cX7_bestQuestion 78 = .ok (.istore_n 3, 1) := by decide +kernel
theorem dX7_bestQuestion_79 : decode cX7_bestQuestion 79 = .ok (.iinc 6 1, 3) := by decide +kernel
theorem dX7_bestQuestion_82 : decode cX7_bestQuestion 82 = .ok (.goto (-55), 3) := by decide +kernel
theorem dX7_bestQuestion_85 : decode cX7_bestQuestion 85 = .ok (.iinc 5 1, 3) := by decide +kernel
theorem dX7_bestQuestion_88 : decode cX7_bestQuestion 88 = .ok (.goto (-73), 3) := by decide +kernel
theorem dX7_bestQuestion_91 : decode cX7_bestQuestion 91 = .ok (.iload_n 3, 1) := by decide +kernel
theorem dX7_bestQuestion_92 : decode cX7_bestQuestion 92 = .ok (.ireturn, 1) := by decide +kernel
set_option maxRecDepth 20000 in
theorem ggX7_leftAtWorst_X2_stepsWithLies : GoodIn wsX7_leftAtWorst wsX2_stepsWithLies := goodIn_r _ [9, 10, 11, 12, 13, 14, 15, 8, 16, 17, 18, 19, 20, 21, 22, 23, 24, 25, 26, 27, 28, 29, 30, 31, 32, 33, 34, 35, 36, 37, 38, 39, 40, 41, 42, 43, 44, 45, 46, 47, 48, 49, 50, 51, 52, 53, 54, 55, 56, 57, 58, 59, 60, 61, 62, 63, 64, 65, 66, 67] (by decide +kernel) (by decide +kernel)
set_option maxRecDepth 20000 in
theorem gX7_leftAtWorst_X2_stepsWithLies : GoodIn wsX7_leftAtWorst (wsV RX7 34 RX2 yX2_stepsWithLies wsX2_stepsWithLies) := goodIn_app (goodIn_of _ (by decide +kernel)) ggX7_leftAtWorst_X2_stepsWithLies
theorem dX7_leftAtWorst_0 : decode cX7_leftAtWorst 0 = .ok (.iconst 0, 1) := by decide +kernel
theorem dX7_leftAtWorst_1 : decode cX7_leftAtWorst 1 = .ok (.istore 5, 2) := by decide +kernel
theorem dX7_leftAtWorst_3 : decode cX7_leftAtWorst 3 = .ok (.iconst 0, 1) := by decide +kernel
theorem dX7_leftAtWorst_4 : decode cX7_leftAtWorst 4 = .ok (.istore 6, 2) := by decide +kernel
theorem dX7_leftAtWorst_6 : decode cX7_leftAtWorst 6 = .ok (.iconst (-1), 1) := by decide +kernel
theorem dX7_leftAtWorst_7 : decode cX7_leftAtWorst 7 = .ok (.istore 7, 2) := by decide +kernel
theorem dX7_leftAtWorst_9 : decode cX7_leftAtWorst 9 = .ok (.iconst 0, 1) := by decide +kernel
theorem dX7_leftAtWorst_10 : decode cX7_leftAtWorst 10 = .ok (.istore 8, 2) := by decide +kernel
theorem dX7_leftAtWorst_12 : decode cX7_leftAtWorst 12 = .ok (.iload 8, 2) := by decide +kernel
theorem dX7_leftAtWorst_14 : decode cX7_leftAtWorst 14 = .ok (.bipush 9, 2) := by decide +kernel
theorem dX7_leftAtWorst_16 : decode cX7_leftAtWorst 16 = .ok (.if_icmp .gt 60, 3) := by decide +kernel
theorem dX7_leftAtWorst_19 : decode cX7_leftAtWorst 19 = .ok (.iload 4, 2) := by decide +kernel
theorem dX7_leftAtWorst_21 : decode cX7_leftAtWorst 21 = .ok (.iload 8, 2) := by decide +kernel
theorem dX7_leftAtWorst_23 : decode cX7_leftAtWorst 23 = .ok (.ishr, 1) := by decide +kernel
theorem dX7_leftAtWorst_24 : decode cX7_leftAtWorst 24 = .ok (.iconst 1, 1) := by decide +kernel
theorem dX7_leftAtWorst_25 : decode cX7_leftAtWorst 25 = .ok (.iand, 1) := by decide +kernel
theorem dX7_leftAtWorst_26 : decode cX7_leftAtWorst 26 = .ok (.ifCond .eq 44, 3) := by decide +kernel
theorem dX7_leftAtWorst_29 : decode cX7_leftAtWorst 29 = .ok (.aload_n 0, 1) := by decide +kernel
theorem dX7_leftAtWorst_30 : decode cX7_leftAtWorst 30 = .ok (.iload_n 1, 1) := by decide +kernel
theorem dX7_leftAtWorst_31 : decode cX7_leftAtWorst 31 = .ok (.iload_n 2, 1) := by decide +kernel
theorem dX7_leftAtWorst_32 : decode cX7_leftAtWorst 32 = .ok (.iload_n 3, 1) := by decide +kernel
theorem dX7_leftAtWorst_33 : decode cX7_leftAtWorst 33 = .ok (.iload 8, 2) := by decide +kernel
theorem dX7_leftAtWorst_35 : decode cX7_leftAtWorst 35 = .ok (.invokevirtual 34, 3) := by decide +kernel
theorem dX7_leftAtWorst_38 : decode cX7_leftAtWorst 38 = .ok (.istore 9, 2) := by decide +kernel
theorem dX7_leftAtWorst_40 : decode cX7_leftAtWorst 40 = .ok (.iload 9, 2) := by decide +kernel
theorem dX7_leftAtWorst_42 : decode cX7_leftAtWorst 42 = .ok (.iload 7, 2) := by decide +kernel
theorem dX7_leftAtWorst_44 : decode cX7_leftAtWorst 44 = .ok (.if_icmp .ne 10, 3) := by decide +kernel
theorem dX7_leftAtWorst_47 : decode cX7_leftAtWorst 47 = .ok (.iload 6, 2) := by decide +kernel
theorem dX7_leftAtWorst_49 : decode cX7_leftAtWorst 49 = .ok (.iconst 1, 1) := by decide +kernel
theorem dX7_leftAtWorst_50 : decode cX7_leftAtWorst 50 = .ok (.iadd, 1) := by decide +kernel
theorem dX7_leftAtWorst_51 : decode cX7_leftAtWorst 51 = .ok (.goto 4, 3) := by decide +kernel
theorem dX7_leftAtWorst_54 : decode cX7_leftAtWorst 54 = .ok (.iconst 1, 1) := by decide +kernel
theorem dX7_leftAtWorst_55 : decode cX7_leftAtWorst 55 = .ok (.istore 6, 2) := by decide +kernel
theorem dX7_leftAtWorst_57 : decode cX7_leftAtWorst 57 = .ok (.iload 9, 2) := by decide +kernel
theorem dX7_leftAtWorst_59 : decode cX7_leftAtWorst 59 = .ok (.istore 7, 2) := by decide +kernel
theorem dX7_leftAtWorst_61 : decode cX7_leftAtWorst 61 = .ok (.iload 5, 2) := by decide +kernel
theorem dX7_leftAtWorst_63 : decode cX7_leftAtWorst 63 = .ok (.iload 6, 2) := by decide +kernel
theorem dX7_leftAtWorst_65 : decode cX7_leftAtWorst 65 = .ok (.invokestatic 48, 3) := by decide +kernel
theorem dX7_leftAtWorst_68 : decode cX7_leftAtWorst 68 = .ok (.istore 5, 2) := by decide +kernel
theorem dX7_leftAtWorst_70 : decode cX7_leftAtWorst 70 = .ok (.iinc 8 1, 3) := by decide +kernel
theorem dX7_leftAtWorst_73 : decode cX7_leftAtWorst 73 = .ok (.goto (-61), 3) := by decide +kernel
theorem dX7_leftAtWorst_76 : decode cX7_leftAtWorst 76 = .ok (.iload 5, 2) := by decide +kernel
theorem dX7_leftAtWorst_78 : decode cX7_leftAtWorst 78 = .ok (.ireturn, 1) := by decide +kernel
set_option maxRecDepth 20000 in
theorem ggX8_init_X2_init : GoodIn wsX8_init wsX2_init := goodIn_r _ [14, 15, 2, 3, 16, 17, 18, 19, 20, 21, 22, 23, 24, 25, 26, 27, 28, 29, 30, 31, 32, 33, 34, 35, 36, 37, 38, 39, 40, 41, 42, 43, 44, 45, 46, 47, 48, 49, 50, 51, 52, 53, 54, 55, 64, 65, 66, 67, 68, 69, 70, 71, 72, 73, 74, 75, 76, 77, 78, 79, 80, 81] (by decide +kernel) (by decide +kernel)
set_option maxRecDepth 20000 in
theorem gX8_init_X2_init_n23 : GoodIn wsX8_init (wsX2_init) := ggX8_init_X2_init
theorem dX8_init_0 : decode cX8_init 0 = .ok (.aload_n 0, 1) := by decide +kernel
theorem dX8_init_1 : decode cX8_init 1 = .ok (.invokespecial 3, 3) := by decide +kernel
theorem dX8_init_4 : decode cX8_init 4 = .ok (.aload_n 0, 1) := by decide +kernel
theorem dX8_init_5 : decode cX8_init 5 = .ok (.iconst 5, 1) := by decide +kernel
theorem dX8_init_6 : decode cX8_init 6 = .ok (.newarray .long, 2) := by decide +kernel
theorem dX8_init_8 : decode cX8_init 8 = .ok (.putfield 9, 3) := by decide +kernel
theorem dX8_init_11 : decode cX8_init 11 = .ok (.aload_n 0, 1) := by decide +kernel
theorem dX8_init_12 : decode cX8_init 12 = .ok (.iconst 5, 1) := by decide +kernel
theorem dX8_init_13 : decode cX8_init 13 = .ok (.newarray .long, 2) := by decide +kernel
theorem dX8_init_15 : decode cX8_init 15 = .ok (.putfield 15, 3) := by decide +kernel
theorem dX8_init_18 : decode cX8_init 18 = .ok (.aload_n 0, 1) := by decide +kernel
theorem dX8_init_19 : decode cX8_init 19 = .ok (.iconst 5, 1) := by decide +kernel
theorem dX8_init_20 : decode cX8_init 20 = .ok (.newarray .long, 2) := by decide +kernel
theorem dX8_init_22 : decode cX8_init 22 = .ok (.putfield 18, 3) := by decide +kernel
theorem dX8_init_25 : decode cX8_init 25 = .ok (.aload_n 0, 1) := by decide +kernel
theorem dX8_init_26 : decode cX8_init 26 = .ok (.new 21, 3) := by decide +kernel
theorem dX8_init_29 : decode cX8_init 29 = .ok (.dup, 1) := by decide +kernel
theorem dX8_init_30 : decode cX8_init 30 = .ok (.invokespecial 23, 3) := by decide +kernel
theorem dX8_init_33 : decode cX8_init 33 = .ok (.putfield 24, 3) := by decide +kernel
theorem dX8_init_36 : decode cX8_init 36 = .ok (.aload_n 0, 1) := by decide +kernel
theorem dX8_init_37 : decode cX8_init 37 = .ok (.lconst 1, 1) := by decide +kernel
theorem dX8_init_38 : decode cX8_init 38 = .ok (.putfield 28, 3) := by decide +kernel
theorem dX8_init_41 : decode cX8_init 41 = .ok (.return_, 1) := by decide +kernel
set_option maxRecDepth 20000 in
theorem ggX8_compare_X8_spread : GoodIn wsX8_compare wsX8_spread := goodIn_r _ [12, 13, 5, 14, 15, 16, 17, 18, 19, 20, 21, 22, 23, 24, 11, 25, 26, 27, 28, 29, 30, 31, 32, 33, 34, 35, 36, 37, 38, 39, 40, 41, 42, 43, 44, 66, 67, 68, 69, 70, 71, 72, 73, 48, 49, 50, 51, 52, 53, 54, 55, 56, 57, 58, 59, 60, 61, 62, 63, 64, 65] (by decide +kernel) (by decide +kernel)
set_option maxRecDepth 20000 in
theorem gX8_compare_X8_spread : GoodIn wsX8_compare (wsV RX8 36 RX8 yX8_spread wsX8_spread) := goodIn_app (goodIn_of _ (by decide +kernel)) ggX8_compare_X8_spread
set_option maxRecDepth 20000 in
theorem ggX8_compare_X8_commonDivisor : GoodIn wsX8_compare wsX8_commonDivisor := goodIn_r _ [47] (by decide +kernel) (by decide +kernel)
set_option maxRecDepth 20000 in
theorem gX8_compare_X8_commonDivisor : GoodIn wsX8_compare (va_wsS RX8 49 yX8_commonDivisor wsX8_commonDivisor) := goodIn_app (goodIn_of _ (by decide +kernel)) ggX8_compare_X8_commonDivisor
theorem dX8_compare_0 : decode cX8_compare 0 = .ok (.aload_n 0, 1) := by decide +kernel
theorem dX8_compare_1 : decode cX8_compare 1 = .ok (.aload_n 1, 1) := by decide +kernel
theorem dX8_compare_2 : decode cX8_compare 2 = .ok (.aload_n 1, 1) := by decide +kernel
theorem dX8_compare_3 : decode cX8_compare 3 = .ok (.getfield 32, 3) := by decide +kernel
theorem dX8_compare_6 : decode cX8_compare 6 = .ok (.iload_n 2, 1) := by decide +kernel
theorem dX8_compare_7 : decode cX8_compare 7 = .ok (.iaload, 1) := by decide +kernel
theorem dX8_compare_8 : decode cX8_compare 8 = .ok (.iload 4, 2) := by decide +kernel
theorem dX8_compare_10 : decode cX8_compare 10 = .ok (.aload_n 0, 1) := by decide +kernel
theorem dX8_compare_11 : decode cX8_compare 11 = .ok (.getfield 9, 3) := by decide +kernel
theorem dX8_compare_14 : decode cX8_compare 14 = .ok (.invokevirtual 36, 3) := by decide +kernel
theorem dX8_compare_17 : decode cX8_compare 17 = .ok (.aload_n 0, 1) := by decide +kernel
theorem dX8_compare_18 : decode cX8_compare 18 = .ok (.aload_n 1, 1) := by decide +kernel
theorem dX8_compare_19 : decode cX8_compare 19 = .ok (.aload_n 1, 1) := by decide +kernel
theorem dX8_compare_20 : decode cX8_compare 20 = .ok (.getfield 32, 3) := by decide +kernel
theorem dX8_compare_23 : decode cX8_compare 23 = .ok (.iload_n 3, 1) := by decide +kernel
theorem dX8_compare_24 : decode cX8_compare 24 = .ok (.iaload, 1) := by decide +kernel
theorem dX8_compare_25 : decode cX8_compare 25 = .ok (.iload 4, 2) := by decide +kernel
theorem dX8_compare_27 : decode cX8_compare 27 = .ok (.aload_n 0, 1) := by decide +kernel
theorem dX8_compare_28 : decode cX8_compare 28 = .ok (.getfield 15, 3) := by decide +kernel
theorem dX8_compare_31 : decode cX8_compare 31 = .ok (.invokevirtual 36, 3) := by decide +kernel
theorem dX8_compare_34 : decode cX8_compare 34 = .ok (.aload_n 0, 1) := by decide +kernel
theorem dX8_compare_35 : decode cX8_compare 35 = .ok (.lconst 0, 1) := by decide +kernel
theorem dX8_compare_36 : decode cX8_compare 36 = .ok (.putfield 40, 3) := by decide +kernel
theorem dX8_compare_39 : decode cX8_compare 39 = .ok (.iconst 0, 1) := by decide +kernel
theorem dX8_compare_40 : decode cX8_compare 40 = .ok (.istore 5, 2) := by decide +kernel
theorem dX8_compare_42 : decode cX8_compare 42 = .ok (.iload 5, 2) := by decide +kernel
theorem dX8_compare_44 : decode cX8_compare 44 = .ok (.aload_n 1, 1) := by decide +kernel
theorem dX8_compare_45 : decode cX8_compare 45 = .ok (.getfield 43, 3) := by decide +kernel
theorem dX8_compare_48 : decode cX8_compare 48 = .ok (.if_icmp .ge 33, 3) := by decide +kernel
theorem dX8_compare_51 : decode cX8_compare 51 = .ok (.aload_n 0, 1) := by decide +kernel
theorem dX8_compare_52 : decode cX8_compare 52 = .ok (.dup, 1) := by decide +kernel
theorem dX8_compare_53 : decode cX8_compare 53 = .ok (.getfield 40, 3) := by decide +kernel
theorem dX8_compare_56 : decode cX8_compare 56 = .ok (.aload_n 0, 1) := by decide +kernel
theorem dX8_compare_57 : decode cX8_compare 57 = .ok (.getfield 9, 3) := by decide +kernel
theorem dX8_compare_60 : decode cX8_compare 60 = .ok (.iload 5, 2) := by decide +kernel
theorem dX8_compare_62 : decode cX8_compare 62 = .ok (.laload, 1) := by decide +kernel
theorem dX8_compare_63 : decode cX8_compare 63 = .ok (.aload_n 0, 1) := by decide +kernel
theorem dX8_compare_64 : decode cX8_compare 64 = .ok (.getfield 15, 3) := by decide +kernel
theorem dX8_compare_67 : decode cX8_compare 67 = .ok (.iload 5, 2) := by decide +kernel
theorem dX8_compare_69 : decode cX8_compare 69 = .ok (.laload, 1) := by decide +kernel
theorem dX8_compare_70 : decode cX8_compare 70 = .ok (.lmul, 1) := by decide +kernel
theorem dX8_compare_71 : decode cX8_compare 71 = .ok (.ladd, 1) := by decide +kernel
theorem dX8_compare_72 : decode cX8_compare 72 = .ok (.putfield 40, 3) := by decide +kernel
theorem dX8_compare_75 : decode cX8_compare 75 = .ok (.iinc 5 1, 3) := by decide +kernel
theorem dX8_compare_78 : decode cX8_compare 78 = .ok (.goto (-36), 3) := by decide +kernel
theorem dX8_compare_81 : decode cX8_compare 81 = .ok (.aload_n 0, 1) := by decide +kernel
theorem dX8_compare_82 : decode cX8_compare 82 = .ok (.lconst 1, 1) := by decide +kernel
theorem dX8_compare_83 : decode cX8_compare 83 = .ok (.putfield 28, 3) := by decide +kernel
theorem dX8_compare_86 : decode cX8_compare 86 = .ok (.iconst 0, 1) := by decide +kernel
theorem dX8_compare_87 : decode cX8_compare 87 = .ok (.istore 5, 2) := by decide +kernel
theorem dX8_compare_89 : decode cX8_compare 89 = .ok (.iload 5, 2) := by decide +kernel
theorem dX8_compare_91 : decode cX8_compare 91 = .ok (.iload 4, 2) := by decide +kernel
theorem dX8_compare_93 : decode cX8_compare 93 = .ok (.if_icmp .ge 21, 3) := by decide +kernel
theorem dX8_compare_96 : decode cX8_compare 96 = .ok (.aload_n 0, 1) := by decide +kernel
theorem dX8_compare_97 : decode cX8_compare 97 = .ok (.dup, 1) := by decide +kernel
theorem dX8_compare_98 : decode cX8_compare 98 = .ok (.getfield 28, 3) := by decide +kernel
theorem dX8_compare_101 : decode cX8_compare 101 = .ok (.ldc2_w 47, 3) := by decide +kernel
theorem dX8_compare_104 : decode cX8_compare 104 = .ok (.lmul, 1) := by decide +kernel
theorem dX8_compare_105 : decode cX8_compare 105 = .ok (.putfield 28, 3) := by decide +kernel
theorem dX8_compare_108 : decode cX8_compare 108 = .ok (.iinc 5 1, 3) := by decide +kernel
theorem dX8_compare_111 : decode cX8_compare 111 = .ok (.goto (-22), 3) := by decide +kernel
theorem dX8_compare_114 : decode cX8_compare 114 = .ok (.aload_n 0, 1) := by decide +kernel
theorem dX8_compare_115 : decode cX8_compare 115 = .ok (.getfield 40, 3) := by decide +kernel
theorem dX8_compare_118 : decode cX8_compare 118 = .ok (.aload_n 0, 1) := by decide +kernel
theorem dX8_compare_119 : decode cX8_compare 119 = .ok (.getfield 28, 3) := by decide +kernel
theorem dX8_compare_122 : decode cX8_compare 122 = .ok (.invokestatic 49, 3) := by decide +kernel
theorem dX8_compare_125 : decode cX8_compare 125 = .ok (.lstore 5, 2) := by decide +kernel
theorem dX8_compare_127 : decode cX8_compare 127 = .ok (.lload 5, 2) := by decide +kernel
theorem dX8_compare_129 : decode cX8_compare 129 = .ok (.lconst 0, 1) := by decide +kernel
theorem dX8_compare_130 : decode cX8_compare 130 = .ok (.lcmp, 1) := by decide +kernel
theorem dX8_compare_131 : decode cX8_compare 131 = .ok (.ifCond .le 25, 3) := by decide +kernel
theorem dX8_compare_134 : decode cX8_compare 134 = .ok (.aload_n 0, 1) := by decide +kernel
theorem dX8_compare_135 : decode cX8_compare 135 = .ok (.dup, 1) := by decide +kernel
theorem dX8_compare_136 : decode cX8_compare 136 = .ok (.getfield 40, 3) := by decide +kernel
theorem dX8_compare_139 : decode cX8_compare 139 = .ok (.lload 5, 2) := by decide +kernel
theorem dX8_compare_141 : decode cX8_compare 141 = .ok (.ldiv, 1) := by decide +kernel
theorem dX8_compare_142 : decode cX8_compare 142 = .ok (.putfield 40, 3) := by decide +kernel
theorem dX8_compare_145 : decode cX8_compare 145 = .ok (.aload_n 0, 1) := by decide +kernel
theorem dX8_compare_146 : decode cX8_compare 146 = .ok (.dup, 1) := by decide +kernel
theorem dX8_compare_147 : decode cX8_compare 147 = .ok (.getfield 28, 3) := by decide +kernel
theorem dX8_compare_150 : decode cX8_compare 150 = .ok (.lload 5, 2) := by decide +kernel
theorem dX8_compare_152 : decode cX8_compare 152 = .ok (.ldiv, 1) := by decide +kernel
theorem dX8_compare_153 : decode cX8_compare 153 = .ok (.putfield 28, 3) := by decide +kernel
theorem dX8_compare_156 : decode cX8_compare 156 = .ok (.return_, 1) := by decide +kernel
set_option maxRecDepth 20000 in
theorem ggX8_spread_J7_fill_d0a16 : GoodIn wsX8_spread wsJ7_fill_d0a16 := goodIn_r _ [10] (by decide +kernel) (by decide +kernel)
set_option maxRecDepth 20000 in
theorem gX8_spread_J7_fill_d0a16 : GoodIn wsX8_spread (va_wsS RX8 53 yJ7_fill_d0a16 wsJ7_fill_d0a16) := goodIn_app (goodIn_of _ (by decide +kernel)) ggX8_spread_J7_fill_d0a16
set_option maxRecDepth 20000 in
theorem ggX8_spread_X8_shareOut : GoodIn wsX8_spread wsX8_shareOut := goodIn_r _ [15, 1, 16, 17, 18, 19, 20, 21, 22, 23, 24, 25, 26, 27, 28, 29, 30, 31, 32, 33, 34, 35, 36, 37, 38, 39, 40, 41, 42, 43, 44, 45, 46, 47, 48, 49, 50, 51, 52, 53, 54, 55, 56, 57, 58, 59, 60] (by decide +kernel) (by decide +kernel)
set_option maxRecDepth 20000 in
theorem gX8_spread_X8_shareOut : GoodIn wsX8_spread (wsV RX8 59 RX8 yX8_shareOut wsX8_shareOut) := goodIn_app (goodIn_of _ (by decide +kernel)) ggX8_spread_X8_shareOut
theorem dX8_spread_0 : decode cX8_spread 0 = .ok (.aload 4, 2) := by decide +kernel
theorem dX8_spread_2 : decode cX8_spread 2 = .ok (.lconst 0, 1) := by decide +kernel
theorem dX8_spread_3 : decode cX8_spread 3 = .ok (.invokestatic 53, 3) := by decide +kernel
theorem dX8_spread_6 : decode cX8_spread 6 = .ok (.aload 4, 2) := by decide +kernel
theorem dX8_spread_8 : decode cX8_spread 8 = .ok (.iload_n 2, 1) := by decide +kernel
theorem dX8_spread_9 : decode cX8_spread 9 = .ok (.lconst 1, 1) := by decide +kernel
theorem dX8_spread_10 : decode cX8_spread 10 = .ok (.lastore, 1) := by decide +kernel
theorem dX8_spread_11 : decode cX8_spread 11 = .ok (.iconst 0, 1) := by decide +kernel
theorem dX8_spread_12 : decode cX8_spread 12 = .ok (.istore 5, 2) := by decide +kernel
theorem dX8_spread_14 : decode cX8_spread 14 = .ok (.iload 5, 2) := by decide +kernel
theorem dX8_spread_16 : decode cX8_spread 16 = .ok (.iload_n 3, 1) := by decide +kernel
theorem dX8_spread_17 : decode cX8_spread 17 = .ok (.if_icmp .ge 59, 3) := by decide +kernel
theorem dX8_spread_20 : decode cX8_spread 20 = .ok (.aload_n 0, 1) := by decide +kernel
theorem dX8_spread_21 : decode cX8_spread 21 = .ok (.getfield 18, 3) := by decide +kernel
theorem dX8_spread_24 : decode cX8_spread 24 = .ok (.lconst 0, 1) := by decide +kernel
theorem dX8_spread_25 : decode cX8_spread 25 = .ok (.invokestatic 53, 3) := by decide +kernel
theorem dX8_spread_28 : decode cX8_spread 28 = .ok (.iconst 0, 1) := by decide +kernel
theorem dX8_spread_29 : decode cX8_spread 29 = .ok (.istore 6, 2) := by decide +kernel
theorem dX8_spread_31 : decode cX8_spread 31 = .ok (.iload 6, 2) := by decide +kernel
theorem dX8_spread_33 : decode cX8_spread 33 = .ok (.aload_n 1, 1) := by decide +kernel
theorem dX8_spread_34 : decode cX8_spread 34 = .ok (.getfield 43, 3) := by decide +kernel
theorem dX8_spread_37 : decode cX8_spread 37 = .ok (.if_icmp .ge 21, 3) := by decide +kernel
theorem dX8_spread_40 : decode cX8_spread 40 = .ok (.aload_n 0, 1) := by decide +kernel
theorem dX8_spread_41 : decode cX8_spread 41 = .ok (.aload_n 1, 1) := by decide +kernel
theorem dX8_spread_42 : decode cX8_spread 42 = .ok (.iload 6, 2) := by decide +kernel
theorem dX8_spread_44 : decode cX8_spread 44 = .ok (.aload 4, 2) := by decide +kernel
theorem dX8_spread_46 : decode cX8_spread 46 = .ok (.iload 6, 2) := by decide +kernel
theorem dX8_spread_48 : decode cX8_spread 48 = .ok (.laload, 1) := by decide +kernel
theorem dX8_spread_49 : decode cX8_spread 49 = .ok (.invokevirtual 59, 3) := by decide +kernel
theorem dX8_spread_52 : decode cX8_spread 52 = .ok (.iinc 6 1, 3) := by decide +kernel
theorem dX8_spread_55 : decode cX8_spread 55 = .ok (.goto (-24), 3) := by decide +kernel
theorem dX8_spread_58 : decode cX8_spread 58 = .ok (.aload_n 0, 1) := by decide +kernel
theorem dX8_spread_59 : decode cX8_spread 59 = .ok (.getfield 18, 3) := by decide +kernel
theorem dX8_spread_62 : decode cX8_spread 62 = .ok (.iconst 0, 1) := by decide +kernel
theorem dX8_spread_63 : decode cX8_spread 63 = .ok (.aload 4, 2) := by decide +kernel
theorem dX8_spread_65 : decode cX8_spread 65 = .ok (.iconst 0, 1) := by decide +kernel
theorem dX8_spread_66 : decode cX8_spread 66 = .ok (.iconst 5, 1) := by decide +kernel
theorem dX8_spread_67 : decode cX8_spread 67 = .ok (.invokestatic 63, 3) := by decide +kernel
theorem dX8_spread_70 : decode cX8_spread 70 = .ok (.iinc 5 1, 3) := by decide +kernel
theorem dX8_spread_73 : decode cX8_spread 73 = .ok (.goto (-59), 3) := by decide +kernel
theorem dX8_spread_76 : decode cX8_spread 76 = .ok (.return_, 1) := by decide +kernel
set_option maxRecDepth 20000 in
theorem ggX8_shareOut_X2_doorsOf : GoodIn wsX8_shareOut wsX2_doorsOf := goodIn_r _ [8, 9, 10, 11, 12, 7, 13, 14, 15, 29, 30, 31, 32, 33, 34, 35, 36, 37, 38, 39, 40, 41, 42, 43, 44, 45, 46] (by decide +kernel) (by decide +kernel)
set_option maxRecDepth 20000 in
theorem gX8_shareOut_X2_doorsOf : GoodIn wsX8_shareOut (wsV RX8 69 RX2 yX2_doorsOf wsX2_doorsOf) := goodIn_app (goodIn_of _ (by decide +kernel)) ggX8_shareOut_X2_doorsOf
set_option maxRecDepth 20000 in
theorem ggX8_shareOut_X2_endsAt : GoodIn wsX8_shareOut wsX2_endsAt := goodIn_r _ [13, 14, 15, 29, 30, 31, 32, 33, 34, 35, 36, 37, 38, 39, 40, 41, 42, 43, 44, 45, 46] (by decide +kernel) (by decide +kernel)
set_option maxRecDepth 20000 in
theorem gX8_shareOut_X2_endsAt : GoodIn wsX8_shareOut (wsV RX8 78 RX2 yX2_endsAt wsX2_endsAt) := goodIn_app (goodIn_of _ (by decide +kernel)) ggX8_shareOut_X2_endsAt
set_option maxRecDepth 20000 in
theorem ggX8_shareOut_X2_across : GoodIn wsX8_shareOut wsX2_across := goodIn_r _ [20, 14, 15, 29, 30, 31, 32, 33, 34, 35, 36, 37, 38, 39, 40, 41, 42, 43, 44, 45, 46] (by decide +kernel) (by decide +kernel)
set_option maxRecDepth 20000 in
theorem gX8_shareOut_X2_across : GoodIn wsX8_shareOut (wsV RX8 82 RX2 yX2_across wsX2_across) := goodIn_app (goodIn_of _ (by decide +kernel)) ggX8_shareOut_X2_across
theorem dX8_shareOut_0 : decode cX8_shareOut 0 = .ok (.aload_n 1, 1) := by decide +kernel
theorem dX8_shareOut_1 : decode cX8_shareOut 1 = .ok (.iload_n 2, 1) := by decide +kernel
theorem dX8_shareOut_2 : decode cX8_shareOut 2 = .ok (.invokevirtual 69, 3) := by decide +kernel
theorem dX8_shareOut_5 : decode cX8_shareOut 5 = .ok (.istore 5, 2) := by decide +kernel
theorem dX8_shareOut_7 : decode cX8_shareOut 7 = .ok (.iload 5, 2) := by decide +kernel
theorem dX8_shareOut_9 : decode cX8_shareOut 9 = .ok (.ifCond .gt 18, 3) := by decide +kernel
theorem dX8_shareOut_12 : decode cX8_shareOut 12 = .ok (.aload_n 0, 1) := by decide +kernel
theorem dX8_shareOut_13 : decode cX8_shareOut 13 = .ok (.getfield 18, 3) := by decide +kernel
theorem dX8_shareOut_16 : decode cX8_shareOut 16 = .ok (.iload_n 2, 1) := by decide +kernel
theorem dX8_shareOut_17 : decode cX8_shareOut 17 = .ok (.dup2, 1) := by decide +kernel
theorem dX8_shareOut_18 : decode cX8_shareOut 18 = .ok (.laload, 1) := by decide +kernel
theorem dX8_shareOut_19 : decode cX8_shareOut 19 = .ok (.lload_n 3, 1) := by decide +kernel
theorem dX8_shareOut_20 : decode cX8_shareOut 20 = .ok (.ldc2_w 73, 3) := by decide +kernel
theorem dX8_shareOut_23 : decode cX8_shareOut 23 = .ok (.lmul, 1) := by decide +kernel
theorem dX8_shareOut_24 : decode cX8_shareOut 24 = .ok (.ladd, 1) := by decide +kernel
theorem dX8_shareOut_25 : decode cX8_shareOut 25 = .ok (.lastore, 1) := by decide +kernel
theorem dX8_shareOut_26 : decode cX8_shareOut 26 = .ok (.return_, 1) := by decide +kernel
theorem dX8_shareOut_27 : decode cX8_shareOut 27 = .ok (.lload_n 3, 1) := by decide +kernel
theorem dX8_shareOut_28 : decode cX8_shareOut 28 = .ok (.ldc2_w 73, 3) := by decide +kernel
theorem dX8_shareOut_31 : decode cX8_shareOut 31 = .ok (.iload 5, 2) := by decide +kernel
theorem dX8_shareOut_33 : decode cX8_shareOut 33 = .ok (.i2l, 1) := by decide +kernel
theorem dX8_shareOut_34 : decode cX8_shareOut 34 = .ok (.ldiv, 1) := by decide +kernel
theorem dX8_shareOut_35 : decode cX8_shareOut 35 = .ok (.lmul, 1) := by decide +kernel
theorem dX8_shareOut_36 : decode cX8_shareOut 36 = .ok (.lstore 6, 2) := by decide +kernel
theorem dX8_shareOut_38 : decode cX8_shareOut 38 = .ok (.iconst 0, 1) := by decide +kernel
theorem dX8_shareOut_39 : decode cX8_shareOut 39 = .ok (.istore 8, 2) := by decide +kernel
theorem dX8_shareOut_41 : decode cX8_shareOut 41 = .ok (.iload 8, 2) := by decide +kernel
theorem dX8_shareOut_43 : decode cX8_shareOut 43 = .ok (.aload_n 1, 1) := by decide +kernel
theorem dX8_shareOut_44 : decode cX8_shareOut 44 = .ok (.getfield 75, 3) := by decide +kernel
theorem dX8_shareOut_47 : decode cX8_shareOut 47 = .ok (.if_icmp .ge 36, 3) := by decide +kernel
theorem dX8_shareOut_50 : decode cX8_shareOut 50 = .ok (.aload_n 1, 1) := by decide +kernel
theorem dX8_shareOut_51 : decode cX8_shareOut 51 = .ok (.iload 8, 2) := by decide +kernel
theorem dX8_shareOut_53 : decode cX8_shareOut 53 = .ok (.iload_n 2, 1) := by decide +kernel
theorem dX8_shareOut_54 : decode cX8_shareOut 54 = .ok (.invokevirtual 78, 3) := by decide +kernel
theorem dX8_shareOut_57 : decode cX8_shareOut 57 = .ok (.ifCond .eq 20, 3) := by decide +kernel
theorem dX8_shareOut_60 : decode cX8_shareOut 60 = .ok (.aload_n 0, 1) := by decide +kernel
theorem dX8_shareOut_61 : decode cX8_shareOut 61 = .ok (.getfield 18, 3) := by decide +kernel
theorem dX8_shareOut_64 : decode cX8_shareOut 64 = .ok (.aload_n 1, 1) := by decide +kernel
theorem dX8_shareOut_65 : decode cX8_shareOut 65 = .ok (.iload 8, 2) := by decide +kernel
theorem dX8_shareOut_67 : decode cX8_shareOut 67 = .ok (.iload_n 2, 1) := by decide +kernel
theorem dX8_shareOut_68 : decode cX8_shareOut 68 = .ok (.invokevirtual 82, 3) := by decide +kernel
theorem dX8_shareOut_71 : decode cX8_shareOut 71 = .ok (.dup2, 1) := by decide +kernel
theorem dX8_shareOut_72 : decode cX8_shareOut 72 = .ok (.laload, 1) := by decide +kernel
theorem dX8_shareOut_73 : decode cX8_shareOut 73 = .ok (.lload 6, 2) := by decide +kernel
theorem dX8_shareOut_75 : decode cX8_shareOut 75 = .ok (.ladd, 1) := by decide +kernel
theorem dX8_shareOut_76 : decode cX8_shareOut 76 = .ok (.lastore, 1) := by decide +kernel
theorem dX8_shareOut_77 : decode cX8_shareOut 77 = .ok (.iinc 8 1, 3) := by decide +kernel
theorem dX8_shareOut_80 : decode cX8_shareOut 80 = .ok (.goto (-39), 3) := by decide +kernel
theorem dX8_shareOut_83 : decode cX8_shareOut 83 = .ok (.return_, 1) := by decide +kernel
theorem dX8_commonDivisor_0 : decode cX8_commonDivisor 0 = .ok (.lload_n 0, 1) := by decide +kernel
theorem dX8_commonDivisor_1 : decode cX8_commonDivisor 1 = .ok (.lstore 4, 2) := by decide +kernel
theorem dX8_commonDivisor_3 : decode cX8_commonDivisor 3 = .ok (.lload_n 2, 1) := by decide +kernel
theorem dX8_commonDivisor_4 : decode cX8_commonDivisor 4 = .ok (.lstore 6, 2) := by decide +kernel
theorem dX8_commonDivisor_6 : decode cX8_commonDivisor 6 = .ok (.iconst 0, 1) := by decide +kernel
theorem dX8_commonDivisor_7 : decode cX8_commonDivisor 7 = .ok (.istore 8, 2) := by decide +kernel
theorem dX8_commonDivisor_9 : decode cX8_commonDivisor 9 = .ok (.iload 8, 2) := by decide +kernel
theorem dX8_commonDivisor_11 : decode cX8_commonDivisor 11 = .ok (.sipush 200, 3) := by decide +kernel
theorem dX8_commonDivisor_14 : decode cX8_commonDivisor 14 = .ok (.if_icmp .ge 31, 3) := by decide +kernel
theorem dX8_commonDivisor_17 : decode cX8_commonDivisor 17 = .ok (.lload 6, 2) := by decide +kernel
theorem dX8_commonDivisor_19 : decode cX8_commonDivisor 19 = .ok (.lconst 0, 1) := by decide +kernel
theorem dX8_commonDivisor_20 : decode cX8_commonDivisor 20 = .ok (.lcmp, 1) := by decide +kernel
theorem dX8_commonDivisor_21 : decode cX8_commonDivisor 21 = .ok (.ifCond .eq 24, 3) := by decide +kernel
theorem dX8_commonDivisor_24 : decode cX8_commonDivisor 24 = .ok (.lload 4, 2) := by decide +kernel
theorem dX8_commonDivisor_26 : decode cX8_commonDivisor 26 = .ok (.lload 6, 2) := by decide +kernel
theorem dX8_commonDivisor_28 : decode cX8_commonDivisor 28 = .ok (.lrem, 1) := by decide +kernel
theorem dX8_commonDivisor_29 : decode cX8_commonDivisor 29 = .ok (.lstore 9, 2) := by decide +kernel
theorem dX8_commonDivisor_31 : decode cX8_commonDivisor 31 = .ok (.lload 6, 2) := by decide +kernel
theorem dX8_commonDivisor_33 : decode cX8_commonDivisor 33 = .ok (.lstore 4, 2) := by decide +kernel
theorem dX8_commonDivisor_35 : decode cX8_commonDivisor 35 = .ok (.lload 9, 2) := by decide +kernel
theorem dX8_commonDivisor_37 : decode cX8_commonDivisor 37 = .ok (.lstore 6, 2) := by decide +kernel
theorem dX8_commonDivisor_39 : decode cX8_commonDivisor 39 = .ok (.iinc 8 1, 3) := by decide +kernel
theorem dX8_commonDivisor_42 : decode cX8_commonDivisor 42 = .ok (.goto (-33), 3) := by decide +kernel
theorem dX8_commonDivisor_45 : decode cX8_commonDivisor 45 = .ok (.lload 4, 2) := by decide +kernel
theorem dX8_commonDivisor_47 : decode cX8_commonDivisor 47 = .ok (.lreturn, 1) := by decide +kernel
set_option maxRecDepth 20000 in
theorem ggX8_dream_X2_copyFrom : GoodIn wsX8_dream wsX2_copyFrom := goodIn_r _ [8, 9, 10, 11, 12, 13, 14, 15, 16, 17, 18, 19, 20, 21, 22, 23, 24, 25, 26, 27, 28, 29, 114, 115, 116, 117, 118, 119, 120, 121, 122, 123, 124, 125, 126, 127, 128, 129, 130, 131] (by decide +kernel) (by decide +kernel)
set_option maxRecDepth 20000 in
theorem gX8_dream_X2_copyFrom : GoodIn wsX8_dream (wsV RX8 86 RX2 yX2_copyFrom wsX2_copyFrom) := goodIn_app (goodIn_of _ (by decide +kernel)) ggX8_dream_X2_copyFrom
set_option maxRecDepth 20000 in
theorem ggX8_dream_X8_dreamOfOne : GoodIn wsX8_dream wsX8_dreamOfOne := goodIn_r _ [34, 1, 35, 36, 3, 37, 38, 39, 40, 33, 41, 42, 2, 43, 44, 45, 46, 47, 48, 7, 49, 10, 50, 51, 52, 53, 14, 19, 54, 55, 56, 57, 58, 59, 60, 61, 23, 24, 25, 12, 62, 63, 64, 65, 20, 22, 66, 67, 68, 69, 70, 21, 71, 72, 73, 74, 75, 76, 77, 78, 79, 80, 81, 82, 83, 84, 85, 86, 87, 88, 89, 90, 91, 92, 93, 94, 95, 96, 97, 98, 99, 100, 101, 102, 103, 104, 105, 106, 107, 108, 109, 110, 111, 112, 113, 114, 115, 116, 117, 118, 119, 120, 121, 122, 123, 124, 125, 126, 127, 128, 129, 130, 131] (by decide +kernel) (by decide +kernel)
set_option maxRecDepth 20000 in
theorem gX8_dream_X8_dreamOfOne : GoodIn wsX8_dream (wsV RX8 96 RX8 yX8_dreamOfOne wsX8_dreamOfOne) := goodIn_app (goodIn_of _ (by decide +kernel)) ggX8_dream_X8_dreamOfOne
theorem dX8_dream_0 : decode cX8_dream 0 = .ok (.aload_n 0, 1) := by decide +kernel
theorem dX8_dream_1 : decode cX8_dream 1 = .ok (.getfield 24, 3) := by decide +kernel
theorem dX8_dream_4 : decode cX8_dream 4 = .ok (.aload_n 1, 1) := by decide +kernel
theorem dX8_dream_5 : decode cX8_dream 5 = .ok (.invokevirtual 86, 3) := by decide +kernel
theorem dX8_dream_8 : decode cX8_dream 8 = .ok (.aload_n 0, 1) := by decide +kernel
theorem dX8_dream_9 : decode cX8_dream 9 = .ok (.iload_n 3, 1) := by decide +kernel
theorem dX8_dream_10 : decode cX8_dream 10 = .ok (.putfield 90, 3) := by decide +kernel
theorem dX8_dream_13 : decode cX8_dream 13 = .ok (.aload_n 0, 1) := by decide +kernel
theorem dX8_dream_14 : decode cX8_dream 14 = .ok (.iconst 0, 1) := by decide +kernel
theorem dX8_dream_15 : decode cX8_dream 15 = .ok (.putfield 93, 3) := by decide +kernel
theorem dX8_dream_18 : decode cX8_dream 18 = .ok (.iconst 0, 1) := by decide +kernel
theorem dX8_dream_19 : decode cX8_dream 19 = .ok (.istore 4, 2) := by decide +kernel
theorem dX8_dream_21 : decode cX8_dream 21 = .ok (.iload 4, 2) := by decide +kernel
theorem dX8_dream_23 : decode cX8_dream 23 = .ok (.iload_n 2, 1) := by decide +kernel
theorem dX8_dream_24 : decode cX8_dream 24 = .ok (.if_icmp .ge 13, 3) := by decide +kernel
theorem dX8_dream_27 : decode cX8_dream 27 = .ok (.aload_n 0, 1) := by decide +kernel
theorem dX8_dream_28 : decode cX8_dream 28 = .ok (.invokevirtual 96, 3) := by decide +kernel
theorem dX8_dream_31 : decode cX8_dream 31 = .ok (.iinc 4 1, 3) := by decide +kernel
theorem dX8_dream_34 : decode cX8_dream 34 = .ok (.goto (-13), 3) := by decide +kernel
theorem dX8_dream_37 : decode cX8_dream 37 = .ok (.return_, 1) := by decide +kernel
set_option maxRecDepth 20000 in
theorem ggX8_dreamOfOne_X8_draw : GoodIn wsX8_dreamOfOne wsX8_draw := goodIn_r _ [10, 11, 12, 13, 14, 15, 87, 88, 89, 90, 91, 92, 93, 94] (by decide +kernel) (by decide +kernel)
set_option maxRecDepth 20000 in
theorem gX8_dreamOfOne_X8_draw : GoodIn wsX8_dreamOfOne (wsV RX8 102 RX8 yX8_draw wsX8_draw) := goodIn_app (goodIn_of _ (by decide +kernel)) ggX8_dreamOfOne_X8_draw
set_option maxRecDepth 20000 in
theorem ggX8_dreamOfOne_X2_doorsOf : GoodIn wsX8_dreamOfOne wsX2_doorsOf := goodIn_r _ [20, 21, 22, 23, 24, 19, 25, 26, 27, 95, 96, 97, 98, 99, 100, 101, 102, 103, 104, 105, 106, 107, 108, 109, 110, 111, 112] (by decide +kernel) (by decide +kernel)
set_option maxRecDepth 20000 in
theorem gX8_dreamOfOne_X2_doorsOf : GoodIn wsX8_dreamOfOne (wsV RX8 69 RX2 yX2_doorsOf wsX2_doorsOf) := goodIn_app (goodIn_of _ (by decide +kernel)) ggX8_dreamOfOne_X2_doorsOf
set_option maxRecDepth 20000 in
theorem ggX8_dreamOfOne_X2_doorOf : GoodIn wsX8_dreamOfOne wsX2_doorOf := goodIn_r _ [31, 21, 22, 23, 24, 19, 25, 26, 27, 95, 96, 97, 98, 99, 100, 101, 102, 103, 104, 105, 106, 107, 108, 109, 110, 111, 112] (by decide +kernel) (by decide +kernel)
set_option maxRecDepth 20000 in
theorem gX8_dreamOfOne_X2_doorOf : GoodIn wsX8_dreamOfOne (wsV RX8 105 RX2 yX2_doorOf wsX2_doorOf) := goodIn_app (goodIn_of _ (by decide +kernel)) ggX8_dreamOfOne_X2_doorOf
set_option maxRecDepth 20000 in
theorem ggX8_dreamOfOne_X2_walk : GoodIn wsX8_dreamOfOne wsX2_walk := goodIn_r _ [35, 36, 37, 38, 39, 40, 41, 42, 19, 43, 44, 45, 46, 47, 48, 49, 50, 51, 52, 53, 54, 55, 56, 57, 58, 59, 60, 61, 62, 63, 64, 65, 66, 67, 68, 69, 70, 71, 72, 73, 74, 75, 76, 77, 78, 79, 80, 81, 82, 83, 84, 85, 86, 26, 27, 95, 96, 97, 98, 99, 100, 101, 102, 103, 104, 105, 106, 107, 108, 109, 110, 111, 112] (by decide +kernel) (by decide +kernel)
set_option maxRecDepth 20000 in
theorem gX8_dreamOfOne_X2_walk : GoodIn wsX8_dreamOfOne (wsV RX8 108 RX2 yX2_walk wsX2_walk) := goodIn_app (goodIn_of _ (by decide +kernel)) ggX8_dreamOfOne_X2_walk
theorem dX8_dreamOfOne_0 : decode cX8_dreamOfOne 0 = .ok (.aload_n 0, 1) := by decide +kernel
theorem dX8_dreamOfOne_1 : decode cX8_dreamOfOne 1 = .ok (.aload_n 0, 1) := by decide +kernel
theorem dX8_dreamOfOne_2 : decode cX8_dreamOfOne 2 = .ok (.getfield 24, 3) := by decide +kernel
theorem dX8_dreamOfOne_5 : decode cX8_dreamOfOne 5 = .ok (.getfield 99, 3) := by decide +kernel
theorem dX8_dreamOfOne_8 : decode cX8_dreamOfOne 8 = .ok (.invokevirtual 102, 3) := by decide +kernel
theorem dX8_dreamOfOne_11 : decode cX8_dreamOfOne 11 = .ok (.istore_n 1, 1) := by decide +kernel
theorem dX8_dreamOfOne_12 : decode cX8_dreamOfOne 12 = .ok (.aload_n 0, 1) := by decide +kernel
theorem dX8_dreamOfOne_13 : decode cX8_dreamOfOne 13 = .ok (.getfield 24, 3) := by decide +kernel
theorem dX8_dreamOfOne_16 : decode cX8_dreamOfOne 16 = .ok (.getfield 32, 3) := by decide +kernel
theorem dX8_dreamOfOne_19 : decode cX8_dreamOfOne 19 = .ok (.iload_n 1, 1) := by decide +kernel
theorem dX8_dreamOfOne_20 : decode cX8_dreamOfOne 20 = .ok (.iaload, 1) := by decide +kernel
theorem dX8_dreamOfOne_21 : decode cX8_dreamOfOne 21 = .ok (.istore_n 2, 1) := by decide +kernel
theorem dX8_dreamOfOne_22 : decode cX8_dreamOfOne 22 = .ok (.aload_n 0, 1) := by decide +kernel
theorem dX8_dreamOfOne_23 : decode cX8_dreamOfOne 23 = .ok (.getfield 24, 3) := by decide +kernel
theorem dX8_dreamOfOne_26 : decode cX8_dreamOfOne 26 = .ok (.iload_n 2, 1) := by decide +kernel
theorem dX8_dreamOfOne_27 : decode cX8_dreamOfOne 27 = .ok (.invokevirtual 69, 3) := by decide +kernel
theorem dX8_dreamOfOne_30 : decode cX8_dreamOfOne 30 = .ok (.istore_n 3, 1) := by decide +kernel
theorem dX8_dreamOfOne_31 : decode cX8_dreamOfOne 31 = .ok (.iload_n 3, 1) := by decide +kernel
theorem dX8_dreamOfOne_32 : decode cX8_dreamOfOne 32 = .ok (.ifCond .le 44, 3) := by decide +kernel
theorem dX8_dreamOfOne_35 : decode cX8_dreamOfOne 35 = .ok (.aload_n 0, 1) := by decide +kernel
theorem dX8_dreamOfOne_36 : decode cX8_dreamOfOne 36 = .ok (.getfield 24, 3) := by decide +kernel
theorem dX8_dreamOfOne_39 : decode cX8_dreamOfOne 39 = .ok (.iload_n 2, 1) := by decide +kernel
theorem dX8_dreamOfOne_40 : decode cX8_dreamOfOne 40 = .ok (.aload_n 0, 1) := by decide +kernel
theorem dX8_dreamOfOne_41 : decode cX8_dreamOfOne 41 = .ok (.iload_n 3, 1) := by decide +kernel
theorem dX8_dreamOfOne_42 : decode cX8_dreamOfOne 42 = .ok (.invokevirtual 102, 3) := by decide +kernel
theorem dX8_dreamOfOne_45 : decode cX8_dreamOfOne 45 = .ok (.invokevirtual 105, 3) := by decide +kernel
theorem dX8_dreamOfOne_48 : decode cX8_dreamOfOne 48 = .ok (.istore 4, 2) := by decide +kernel
theorem dX8_dreamOfOne_50 : decode cX8_dreamOfOne 50 = .ok (.iload 4, 2) := by decide +kernel
theorem dX8_dreamOfOne_52 : decode cX8_dreamOfOne 52 = .ok (.iconst (-1), 1) := by decide +kernel
theorem dX8_dreamOfOne_53 : decode cX8_dreamOfOne 53 = .ok (.if_icmp .eq 23, 3) := by decide +kernel
theorem dX8_dreamOfOne_56 : decode cX8_dreamOfOne 56 = .ok (.aload_n 0, 1) := by decide +kernel
theorem dX8_dreamOfOne_57 : decode cX8_dreamOfOne 57 = .ok (.dup, 1) := by decide +kernel
theorem dX8_dreamOfOne_58 : decode cX8_dreamOfOne 58 = .ok (.getfield 93, 3) := by decide +kernel
theorem dX8_dreamOfOne_61 : decode cX8_dreamOfOne 61 = .ok (.aload_n 0, 1) := by decide +kernel
theorem dX8_dreamOfOne_62 : decode cX8_dreamOfOne 62 = .ok (.getfield 24, 3) := by decide +kernel
theorem dX8_dreamOfOne_65 : decode cX8_dreamOfOne 65 = .ok (.iload_n 1, 1) := by decide +kernel
theorem dX8_dreamOfOne_66 : decode cX8_dreamOfOne 66 = .ok (.iload 4, 2) := by decide +kernel
theorem dX8_dreamOfOne_68 : decode cX8_dreamOfOne 68 = .ok (.iconst (-1), 1) := by decide +kernel
theorem dX8_dreamOfOne_69 : decode cX8_dreamOfOne 69 = .ok (.invokevirtual 108, 3) := by decide +kernel
theorem dX8_dreamOfOne_72 : decode cX8_dreamOfOne 72 = .ok (.iadd, 1) := by decide +kernel
theorem dX8_dreamOfOne_73 : decode cX8_dreamOfOne 73 = .ok (.putfield 93, 3) := by decide +kernel
theorem dX8_dreamOfOne_76 : decode cX8_dreamOfOne 76 = .ok (.aload_n 0, 1) := by decide +kernel
theorem dX8_dreamOfOne_77 : decode cX8_dreamOfOne 77 = .ok (.iconst 4, 1) := by decide +kernel
theorem dX8_dreamOfOne_78 : decode cX8_dreamOfOne 78 = .ok (.invokevirtual 102, 3) := by decide +kernel
theorem dX8_dreamOfOne_81 : decode cX8_dreamOfOne 81 = .ok (.ifCond .ne 30, 3) := by decide +kernel
theorem dX8_dreamOfOne_84 : decode cX8_dreamOfOne 84 = .ok (.aload_n 0, 1) := by decide +kernel
theorem dX8_dreamOfOne_85 : decode cX8_dreamOfOne 85 = .ok (.getfield 24, 3) := by decide +kernel
theorem dX8_dreamOfOne_88 : decode cX8_dreamOfOne 88 = .ok (.getfield 112, 3) := by decide +kernel
theorem dX8_dreamOfOne_91 : decode cX8_dreamOfOne 91 = .ok (.iload_n 1, 1) := by decide +kernel
theorem dX8_dreamOfOne_92 : decode cX8_dreamOfOne 92 = .ok (.iaload, 1) := by decide +kernel
theorem dX8_dreamOfOne_93 : decode cX8_dreamOfOne 93 = .ok (.bipush 9, 2) := by decide +kernel
theorem dX8_dreamOfOne_95 : decode cX8_dreamOfOne 95 = .ok (.if_icmp .ge 16, 3) := by decide +kernel
theorem dX8_dreamOfOne_98 : decode cX8_dreamOfOne 98 = .ok (.aload_n 0, 1) := by decide +kernel
theorem dX8_dreamOfOne_99 : decode cX8_dreamOfOne 99 = .ok (.getfield 24, 3) := by decide +kernel
theorem dX8_dreamOfOne_102 : decode cX8_dreamOfOne 102 = .ok (.getfield 112, 3) := by decide +kernel
theorem dX8_dreamOfOne_105 : decode cX8_dreamOfOne 105 = .ok (.iload_n 1, 1) := by decide +kernel
theorem dX8_dreamOfOne_106 : decode cX8_dreamOfOne 106 = .ok (.dup2, 1) := by decide +kernel
theorem dX8_dreamOfOne_107 : decode cX8_dreamOfOne 107 = .ok (.iaload, 1) := by decide +kernel
theorem dX8_dreamOfOne_108 : decode cX8_dreamOfOne 108 = .ok (.iconst 1, 1) := by decide +kernel
theorem dX8_dreamOfOne_109 : decode cX8_dreamOfOne 109 = .ok (.iadd, 1) := by decide +kernel
theorem dX8_dreamOfOne_110 : decode cX8_dreamOfOne 110 = .ok (.iastore, 1) := by decide +kernel
theorem dX8_dreamOfOne_111 : decode cX8_dreamOfOne 111 = .ok (.return_, 1) := by decide +kernel
theorem dX8_draw_0 : decode cX8_draw 0 = .ok (.aload_n 0, 1) := by decide +kernel
theorem dX8_draw_1 : decode cX8_draw 1 = .ok (.ldc2_w 115, 3) := by decide +kernel
theorem dX8_draw_4 : decode cX8_draw 4 = .ok (.aload_n 0, 1) := by decide +kernel
theorem dX8_draw_5 : decode cX8_draw 5 = .ok (.getfield 90, 3) := by decide +kernel
theorem dX8_draw_8 : decode cX8_draw 8 = .ok (.i2l, 1) := by decide +kernel
theorem dX8_draw_9 : decode cX8_draw 9 = .ok (.lmul, 1) := by decide +kernel
theorem dX8_draw_10 : decode cX8_draw 10 = .ok (.ldc2_w 117, 3) := by decide +kernel
theorem dX8_draw_13 : decode cX8_draw 13 = .ok (.ladd, 1) := by decide +kernel
theorem dX8_draw_14 : decode cX8_draw 14 = .ok (.ldc2_w 119, 3) := by decide +kernel
theorem dX8_draw_17 : decode cX8_draw 17 = .ok (.land, 1) := by decide +kernel
theorem dX8_draw_18 : decode cX8_draw 18 = .ok (.l2i, 1) := by decide +kernel
theorem dX8_draw_19 : decode cX8_draw 19 = .ok (.putfield 90, 3) := by decide +kernel
theorem dX8_draw_22 : decode cX8_draw 22 = .ok (.iload_n 1, 1) := by decide +kernel
theorem dX8_draw_23 : decode cX8_draw 23 = .ok (.ifCond .le 15, 3) := by decide +kernel
theorem dX8_draw_26 : decode cX8_draw 26 = .ok (.aload_n 0, 1) := by decide +kernel
theorem dX8_draw_27 : decode cX8_draw 27 = .ok (.getfield 90, 3) := by decide +kernel
theorem dX8_draw_30 : decode cX8_draw 30 = .ok (.ldc 121, 2) := by decide +kernel
theorem dX8_draw_32 : decode cX8_draw 32 = .ok (.idiv, 1) := by decide +kernel
theorem dX8_draw_33 : decode cX8_draw 33 = .ok (.iload_n 1, 1) := by decide +kernel
theorem dX8_draw_34 : decode cX8_draw 34 = .ok (.irem, 1) := by decide +kernel
theorem dX8_draw_35 : decode cX8_draw 35 = .ok (.goto 4, 3) := by decide +kernel
theorem dX8_draw_38 : decode cX8_draw 38 = .ok (.iconst 0, 1) := by decide +kernel
theorem dX8_draw_39 : decode cX8_draw 39 = .ok (.ireturn, 1) := by decide +kernel
set_option maxRecDepth 20000 in
theorem ggX8_dreamtInRoomZero_X2_peopleInRoomZero : GoodIn wsX8_dreamtInRoomZero wsX2_peopleInRoomZero := goodIn_r _ [6, 7, 8, 17, 18, 19, 20, 21, 22, 23, 24, 25, 26, 27, 28, 29, 30, 31, 32, 33, 34] (by decide +kernel) (by decide +kernel)
set_option maxRecDepth 20000 in
theorem gX8_dreamtInRoomZero_X2_peopleInRoomZero : GoodIn wsX8_dreamtInRoomZero (wsV RX8 122 RX2 yX2_peopleInRoomZero wsX2_peopleInRoomZero) := goodIn_app (goodIn_of _ (by decide +kernel)) ggX8_dreamtInRoomZero_X2_peopleInRoomZero
theorem dX8_dreamtInRoomZero_0 : decode cX8_dreamtInRoomZero 0 = .ok (.aload_n 0, 1) := by decide +kernel
theorem dX8_dreamtInRoomZero_1 : decode cX8_dreamtInRoomZero 1 = .ok (.getfield 24, 3) := by decide +kernel
theorem dX8_dreamtInRoomZero_4 : decode cX8_dreamtInRoomZero 4 = .ok (.invokevirtual 122, 3) := by decide +kernel
theorem dX8_dreamtInRoomZero_7 : decode cX8_dreamtInRoomZero 7 = .ok (.ireturn, 1) := by decide +kernel
theorem dX9_init_0 : decode cX9_init 0 = .ok (.aload_n 0, 1) := by decide +kernel
theorem dX9_init_1 : decode cX9_init 1 = .ok (.invokespecial 3, 3) := by decide +kernel
theorem dX9_init_4 : decode cX9_init 4 = .ok (.aload_n 0, 1) := by decide +kernel
theorem dX9_init_5 : decode cX9_init 5 = .ok (.bipush 7, 2) := by decide +kernel
theorem dX9_init_7 : decode cX9_init 7 = .ok (.newarray .int, 2) := by decide +kernel
theorem dX9_init_9 : decode cX9_init 9 = .ok (.putfield 9, 3) := by decide +kernel
theorem dX9_init_12 : decode cX9_init 12 = .ok (.aload_n 0, 1) := by decide +kernel
theorem dX9_init_13 : decode cX9_init 13 = .ok (.iconst 5, 1) := by decide +kernel
theorem dX9_init_14 : decode cX9_init 14 = .ok (.newarray .int, 2) := by decide +kernel
theorem dX9_init_16 : decode cX9_init 16 = .ok (.putfield 15, 3) := by decide +kernel
theorem dX9_init_19 : decode cX9_init 19 = .ok (.aload_n 0, 1) := by decide +kernel
theorem dX9_init_20 : decode cX9_init 20 = .ok (.iconst 5, 1) := by decide +kernel
theorem dX9_init_21 : decode cX9_init 21 = .ok (.iconst 5, 1) := by decide +kernel
theorem dX9_init_22 : decode cX9_init 22 = .ok (.multianewarray 18 2, 4) := by decide +kernel
theorem dX9_init_26 : decode cX9_init 26 = .ok (.putfield 20, 3) := by decide +kernel
theorem dX9_init_29 : decode cX9_init 29 = .ok (.aload_n 0, 1) := by decide +kernel
theorem dX9_init_30 : decode cX9_init 30 = .ok (.iconst 5, 1) := by decide +kernel
theorem dX9_init_31 : decode cX9_init 31 = .ok (.newarray .int, 2) := by decide +kernel
theorem dX9_init_33 : decode cX9_init 33 = .ok (.putfield 23, 3) := by decide +kernel
theorem dX9_init_36 : decode cX9_init 36 = .ok (.aload_n 0, 1) := by decide +kernel
theorem dX9_init_37 : decode cX9_init 37 = .ok (.iconst 5, 1) := by decide +kernel
theorem dX9_init_38 : decode cX9_init 38 = .ok (.newarray .int, 2) := by decide +kernel
theorem dX9_init_40 : decode cX9_init 40 = .ok (.putfield 26, 3) := by decide +kernel
theorem dX9_init_43 : decode cX9_init 43 = .ok (.aload_n 0, 1) := by decide +kernel
theorem dX9_init_44 : decode cX9_init 44 = .ok (.ldc 29, 2) := by decide +kernel
theorem dX9_init_46 : decode cX9_init 46 = .ok (.putfield 30, 3) := by decide +kernel
theorem dX9_init_49 : decode cX9_init 49 = .ok (.return_, 1) := by decide +kernel
set_option maxRecDepth 20000 in
theorem ggX9_measure_X2_aloneSteps : GoodIn wsX9_measure wsX2_aloneSteps := goodIn_r _ [12, 13, 14, 15, 16, 17, 18, 11, 19, 20, 21, 22, 23, 24, 25, 26, 27, 28, 29, 30, 31, 32, 33, 34, 35, 36, 37, 38, 39, 40, 41, 42, 43, 44, 45, 46, 47, 48, 49, 50, 51, 52, 66, 67, 68, 69, 70, 71, 72, 73, 74, 75, 76, 77, 78, 79, 80, 81, 82, 83] (by decide +kernel) (by decide +kernel)
set_option maxRecDepth 20000 in
theorem gX9_measure_X2_aloneSteps : GoodIn wsX9_measure (wsV RX9 39 RX2 yX2_aloneSteps wsX2_aloneSteps) := goodIn_app (goodIn_of _ (by decide +kernel)) ggX9_measure_X2_aloneSteps
set_option maxRecDepth 20000 in
theorem ggX9_measure_J7_fill_53178 : GoodIn wsX9_measure wsJ7_fill_53178 := goodIn_r _ [56] (by decide +kernel) (by decide +kernel)
set_option maxRecDepth 20000 in
theorem gX9_measure_J7_fill_53178 : GoodIn wsX9_measure (va_wsS RX9 43 yJ7_fill_53178 wsJ7_fill_53178) := goodIn_app (goodIn_of _ (by decide +kernel)) ggX9_measure_J7_fill_53178
set_option maxRecDepth 20000 in
theorem ggX9_measure_X9_shorten : GoodIn wsX9_measure wsX9_shorten := goodIn_r _ [61, 3, 62, 63, 64, 65, 84, 85, 86, 87, 88, 89] (by decide +kernel) (by decide +kernel)
set_option maxRecDepth 20000 in
theorem gX9_measure_X9_shorten : GoodIn wsX9_measure (wsV RX9 58 RX9 yX9_shorten wsX9_shorten) := goodIn_app (goodIn_of _ (by decide +kernel)) ggX9_measure_X9_shorten
theorem dX9_measure_0 : decode cX9_measure 0 = .ok (.iconst 0, 1) := by decide +kernel
theorem dX9_measure_1 : decode cX9_measure 1 = .ok (.istore 4, 2) := by decide +kernel
theorem dX9_measure_3 : decode cX9_measure 3 = .ok (.iload 4, 2) := by decide +kernel
theorem dX9_measure_5 : decode cX9_measure 5 = .ok (.aload_n 1, 1) := by decide +kernel
theorem dX9_measure_6 : decode cX9_measure 6 = .ok (.getfield 34, 3) := by decide +kernel
theorem dX9_measure_9 : decode cX9_measure 9 = .ok (.if_icmp .ge 23, 3) := by decide +kernel
theorem dX9_measure_12 : decode cX9_measure 12 = .ok (.aload_n 0, 1) := by decide +kernel
theorem dX9_measure_13 : decode cX9_measure 13 = .ok (.getfield 9, 3) := by decide +kernel
theorem dX9_measure_16 : decode cX9_measure 16 = .ok (.iload 4, 2) := by decide +kernel
theorem dX9_measure_18 : decode cX9_measure 18 = .ok (.aload_n 1, 1) := by decide +kernel
theorem dX9_measure_19 : decode cX9_measure 19 = .ok (.iload_n 2, 1) := by decide +kernel
theorem dX9_measure_20 : decode cX9_measure 20 = .ok (.iload 4, 2) := by decide +kernel
theorem dX9_measure_22 : decode cX9_measure 22 = .ok (.invokevirtual 39, 3) := by decide +kernel
theorem dX9_measure_25 : decode cX9_measure 25 = .ok (.iastore, 1) := by decide +kernel
theorem dX9_measure_26 : decode cX9_measure 26 = .ok (.iinc 4 1, 3) := by decide +kernel
theorem dX9_measure_29 : decode cX9_measure 29 = .ok (.goto (-26), 3) := by decide +kernel
theorem dX9_measure_32 : decode cX9_measure 32 = .ok (.aload_n 0, 1) := by decide +kernel
theorem dX9_measure_33 : decode cX9_measure 33 = .ok (.getfield 15, 3) := by decide +kernel
theorem dX9_measure_36 : decode cX9_measure 36 = .ok (.ldc 29, 2) := by decide +kernel
theorem dX9_measure_38 : decode cX9_measure 38 = .ok (.invokestatic 43, 3) := by decide +kernel
theorem dX9_measure_41 : decode cX9_measure 41 = .ok (.aload_n 0, 1) := by decide +kernel
theorem dX9_measure_42 : decode cX9_measure 42 = .ok (.getfield 15, 3) := by decide +kernel
theorem dX9_measure_45 : decode cX9_measure 45 = .ok (.iload_n 3, 1) := by decide +kernel
theorem dX9_measure_46 : decode cX9_measure 46 = .ok (.iconst 0, 1) := by decide +kernel
theorem dX9_measure_47 : decode cX9_measure 47 = .ok (.iastore, 1) := by decide +kernel
theorem dX9_measure_48 : decode cX9_measure 48 = .ok (.iconst 1, 1) := by decide +kernel
theorem dX9_measure_49 : decode cX9_measure 49 = .ok (.istore 4, 2) := by decide +kernel
theorem dX9_measure_51 : decode cX9_measure 51 = .ok (.iload 4, 2) := by decide +kernel
theorem dX9_measure_53 : decode cX9_measure 53 = .ok (.aload_n 1, 1) := by decide +kernel
theorem dX9_measure_54 : decode cX9_measure 54 = .ok (.getfield 49, 3) := by decide +kernel
theorem dX9_measure_57 : decode cX9_measure 57 = .ok (.if_icmp .ge 52, 3) := by decide +kernel
theorem dX9_measure_60 : decode cX9_measure 60 = .ok (.iconst 0, 1) := by decide +kernel
theorem dX9_measure_61 : decode cX9_measure 61 = .ok (.istore 5, 2) := by decide +kernel
theorem dX9_measure_63 : decode cX9_measure 63 = .ok (.iload 5, 2) := by decide +kernel
theorem dX9_measure_65 : decode cX9_measure 65 = .ok (.aload_n 1, 1) := by decide +kernel
theorem dX9_measure_66 : decode cX9_measure 66 = .ok (.getfield 34, 3) := by decide +kernel
theorem dX9_measure_69 : decode cX9_measure 69 = .ok (.if_icmp .ge 34, 3) := by decide +kernel
theorem dX9_measure_72 : decode cX9_measure 72 = .ok (.aload_n 0, 1) := by decide +kernel
theorem dX9_measure_73 : decode cX9_measure 73 = .ok (.aload_n 1, 1) := by decide +kernel
theorem dX9_measure_74 : decode cX9_measure 74 = .ok (.getfield 52, 3) := by decide +kernel
theorem dX9_measure_77 : decode cX9_measure 77 = .ok (.iload 5, 2) := by decide +kernel
theorem dX9_measure_79 : decode cX9_measure 79 = .ok (.iaload, 1) := by decide +kernel
theorem dX9_measure_80 : decode cX9_measure 80 = .ok (.aload_n 1, 1) := by decide +kernel
theorem dX9_measure_81 : decode cX9_measure 81 = .ok (.getfield 55, 3) := by decide +kernel
theorem dX9_measure_84 : decode cX9_measure 84 = .ok (.iload 5, 2) := by decide +kernel
theorem dX9_measure_86 : decode cX9_measure 86 = .ok (.iaload, 1) := by decide +kernel
theorem dX9_measure_87 : decode cX9_measure 87 = .ok (.aload_n 0, 1) := by decide +kernel
theorem dX9_measure_88 : decode cX9_measure 88 = .ok (.getfield 9, 3) := by decide +kernel
theorem dX9_measure_91 : decode cX9_measure 91 = .ok (.iload 5, 2) := by decide +kernel
theorem dX9_measure_93 : decode cX9_measure 93 = .ok (.iaload, 1) := by decide +kernel
theorem dX9_measure_94 : decode cX9_measure 94 = .ok (.invokevirtual 58, 3) := by decide +kernel
theorem dX9_measure_97 : decode cX9_measure 97 = .ok (.iinc 5 1, 3) := by decide +kernel
theorem dX9_measure_100 : decode cX9_measure 100 = .ok (.goto (-37), 3) := by decide +kernel
theorem dX9_measure_103 : decode cX9_measure 103 = .ok (.iinc 4 1, 3) := by decide +kernel
theorem dX9_measure_106 : decode cX9_measure 106 = .ok (.goto (-55), 3) := by decide +kernel
theorem dX9_measure_109 : decode cX9_measure 109 = .ok (.return_, 1) := by decide +kernel
theorem dX9_shorten_0 : decode cX9_shorten 0 = .ok (.aload_n 0, 1) := by decide +kernel
theorem dX9_shorten_1 : decode cX9_shorten 1 = .ok (.getfield 15, 3) := by decide +kernel
theorem dX9_shorten_4 : decode cX9_shorten 4 = .ok (.iload_n 1, 1) := by decide +kernel
theorem dX9_shorten_5 : decode cX9_shorten 5 = .ok (.aload_n 0, 1) := by decide +kernel
theorem dX9_shorten_6 : decode cX9_shorten 6 = .ok (.getfield 15, 3) := by decide +kernel
theorem dX9_shorten_9 : decode cX9_shorten 9 = .ok (.iload_n 1, 1) := by decide +kernel
theorem dX9_shorten_10 : decode cX9_shorten 10 = .ok (.iaload, 1) := by decide +kernel
theorem dX9_shorten_11 : decode cX9_shorten 11 = .ok (.aload_n 0, 1) := by decide +kernel
theorem dX9_shorten_12 : decode cX9_shorten 12 = .ok (.getfield 15, 3) := by decide +kernel
theorem dX9_shorten_15 : decode cX9_shorten 15 = .ok (.iload_n 2, 1) := by decide +kernel
theorem dX9_shorten_16 : decode cX9_shorten 16 = .ok (.iaload, 1) := by decide +kernel
theorem dX9_shorten_17 : decode cX9_shorten 17 = .ok (.iload_n 3, 1) := by decide +kernel
theorem dX9_shorten_18 : decode cX9_shorten 18 = .ok (.iadd, 1) := by decide +kernel
theorem dX9_shorten_19 : decode cX9_shorten 19 = .ok (.invokestatic 62, 3) := by decide +kernel
theorem dX9_shorten_22 : decode cX9_shorten 22 = .ok (.iastore, 1) := by decide +kernel
theorem dX9_shorten_23 : decode cX9_shorten 23 = .ok (.aload_n 0, 1) := by decide +kernel
theorem dX9_shorten_24 : decode cX9_shorten 24 = .ok (.getfield 15, 3) := by decide +kernel
theorem dX9_shorten_27 : decode cX9_shorten 27 = .ok (.iload_n 2, 1) := by decide +kernel
theorem dX9_shorten_28 : decode cX9_shorten 28 = .ok (.aload_n 0, 1) := by decide +kernel
theorem dX9_shorten_29 : decode cX9_shorten 29 = .ok (.getfield 15, 3) := by decide +kernel
theorem dX9_shorten_32 : decode cX9_shorten 32 = .ok (.iload_n 2, 1) := by decide +kernel
theorem dX9_shorten_33 : decode cX9_shorten 33 = .ok (.iaload, 1) := by decide +kernel
theorem dX9_shorten_34 : decode cX9_shorten 34 = .ok (.aload_n 0, 1) := by decide +kernel
theorem dX9_shorten_35 : decode cX9_shorten 35 = .ok (.getfield 15, 3) := by decide +kernel
theorem dX9_shorten_38 : decode cX9_shorten 38 = .ok (.iload_n 1, 1) := by decide +kernel
theorem dX9_shorten_39 : decode cX9_shorten 39 = .ok (.iaload, 1) := by decide +kernel
theorem dX9_shorten_40 : decode cX9_shorten 40 = .ok (.iload_n 3, 1) := by decide +kernel
theorem dX9_shorten_41 : decode cX9_shorten 41 = .ok (.iadd, 1) := by decide +kernel
theorem dX9_shorten_42 : decode cX9_shorten 42 = .ok (.invokestatic 62, 3) := by decide +kernel
theorem dX9_shorten_45 : decode cX9_shorten 45 = .ok (.iastore, 1) := by decide +kernel
theorem dX9_shorten_46 : decode cX9_shorten 46 = .ok (.return_, 1) := by decide +kernel
theorem dX9_stepsFrom_0 : decode cX9_stepsFrom 0 = .ok (.aload_n 0, 1) := by decide +kernel
theorem dX9_stepsFrom_1 : decode cX9_stepsFrom 1 = .ok (.getfield 15, 3) := by decide +kernel
theorem dX9_stepsFrom_4 : decode cX9_stepsFrom 4 = .ok (.iload_n 1, 1) := by decide +kernel
theorem dX9_stepsFrom_5 : decode cX9_stepsFrom 5 = .ok (.iaload, 1) := by decide +kernel
theorem dX9_stepsFrom_6 : decode cX9_stepsFrom 6 = .ok (.ldc 29, 2) := by decide +kernel
theorem dX9_stepsFrom_8 : decode cX9_stepsFrom 8 = .ok (.if_icmp .ge 12, 3) := by decide +kernel
theorem dX9_stepsFrom_11 : decode cX9_stepsFrom 11 = .ok (.aload_n 0, 1) := by decide +kernel
theorem dX9_stepsFrom_12 : decode cX9_stepsFrom 12 = .ok (.getfield 15, 3) := by decide +kernel
theorem dX9_stepsFrom_15 : decode cX9_stepsFrom 15 = .ok (.iload_n 1, 1) := by decide +kernel
theorem dX9_stepsFrom_16 : decode cX9_stepsFrom 16 = .ok (.iaload, 1) := by decide +kernel
theorem dX9_stepsFrom_17 : decode cX9_stepsFrom 17 = .ok (.goto 4, 3) := by decide +kernel
theorem dX9_stepsFrom_20 : decode cX9_stepsFrom 20 = .ok (.iconst (-1), 1) := by decide +kernel
theorem dX9_stepsFrom_21 : decode cX9_stepsFrom 21 = .ok (.ireturn, 1) := by decide +kernel
set_option maxRecDepth 20000 in
theorem ggX9_legFrom_X9_nextLeg : GoodIn wsX9_legFrom wsX9_nextLeg := goodIn_r _ [5, 6, 7, 8, 9, 10, 11, 12, 13, 14, 15, 16, 17, 18, 19, 20, 21, 22, 23, 24, 25, 26, 27, 28, 29, 30, 31, 32, 33, 34, 35, 36, 37, 38, 39, 40, 41, 42, 43] (by decide +kernel) (by decide +kernel)
set_option maxRecDepth 20000 in
theorem gX9_legFrom_X9_nextLeg : GoodIn wsX9_legFrom (wsV RX9 67 RX9 yX9_nextLeg wsX9_nextLeg) := goodIn_app (goodIn_of _ (by decide +kernel)) ggX9_legFrom_X9_nextLeg
set_option maxRecDepth 20000 in
theorem ggX9_legFrom_X2_across : GoodIn wsX9_legFrom wsX2_across := goodIn_r _ [19, 14, 15, 20, 21, 22, 23, 24, 25, 26, 27, 28, 29, 30, 31, 32, 33, 34, 35, 36, 37] (by decide +kernel) (by decide +kernel)
set_option maxRecDepth 20000 in
theorem gX9_legFrom_X2_across : GoodIn wsX9_legFrom (wsV RX9 71 RX2 yX2_across wsX2_across) := goodIn_app (goodIn_of _ (by decide +kernel)) ggX9_legFrom_X2_across
theorem dX9_legFrom_0 : decode cX9_legFrom 0 = .ok (.iload_n 2, 1) := by decide +kernel
theorem dX9_legFrom_1 : decode cX9_legFrom 1 = .ok (.istore 4, 2) := by decide +kernel
theorem dX9_legFrom_3 : decode cX9_legFrom 3 = .ok (.aload_n 0, 1) := by decide +kernel
theorem dX9_legFrom_4 : decode cX9_legFrom 4 = .ok (.aload_n 1, 1) := by decide +kernel
theorem dX9_legFrom_5 : decode cX9_legFrom 5 = .ok (.iload 4, 2) := by decide +kernel
theorem dX9_legFrom_7 : decode cX9_legFrom 7 = .ok (.invokevirtual 67, 3) := by decide +kernel
theorem dX9_legFrom_10 : decode cX9_legFrom 10 = .ok (.istore 5, 2) := by decide +kernel
theorem dX9_legFrom_12 : decode cX9_legFrom 12 = .ok (.iconst 0, 1) := by decide +kernel
theorem dX9_legFrom_13 : decode cX9_legFrom 13 = .ok (.istore 6, 2) := by decide +kernel
theorem dX9_legFrom_15 : decode cX9_legFrom 15 = .ok (.iload 6, 2) := by decide +kernel
theorem dX9_legFrom_17 : decode cX9_legFrom 17 = .ok (.iload_n 3, 1) := by decide +kernel
theorem dX9_legFrom_18 : decode cX9_legFrom 18 = .ok (.if_icmp .ge 34, 3) := by decide +kernel
theorem dX9_legFrom_21 : decode cX9_legFrom 21 = .ok (.iload 5, 2) := by decide +kernel
theorem dX9_legFrom_23 : decode cX9_legFrom 23 = .ok (.iconst (-1), 1) := by decide +kernel
theorem dX9_legFrom_24 : decode cX9_legFrom 24 = .ok (.if_icmp .eq 28, 3) := by decide +kernel
theorem dX9_legFrom_27 : decode cX9_legFrom 27 = .ok (.aload_n 1, 1) := by decide +kernel
theorem dX9_legFrom_28 : decode cX9_legFrom 28 = .ok (.iload 5, 2) := by decide +kernel
theorem dX9_legFrom_30 : decode cX9_legFrom 30 = .ok (.iload 4, 2) := by decide +kernel
theorem dX9_legFrom_32 : decode cX9_legFrom 32 = .ok (.invokevirtual 71, 3) := by decide +kernel
theorem dX9_legFrom_35 : decode cX9_legFrom 35 = .ok (.istore 4, 2) := by decide +kernel
theorem dX9_legFrom_37 : decode cX9_legFrom 37 = .ok (.aload_n 0, 1) := by decide +kernel
theorem dX9_legFrom_38 : decode cX9_legFrom 38 = .ok (.aload_n 1, 1) := by decide +kernel
theorem dX9_legFrom_39 : decode cX9_legFrom 39 = .ok (.iload 4, 2) := by decide +kernel
theorem dX9_legFrom_41 : decode cX9_legFrom 41 = .ok (.invokevirtual 67, 3) := by decide +kernel
theorem dX9_legFrom_44 : decode cX9_legFrom 44 = .ok (.istore 5, 2) := by decide +kernel
theorem dX9_legFrom_46 : decode cX9_legFrom 46 = .ok (.iinc 6 1, 3) := by decide +kernel
theorem dX9_legFrom_49 : decode cX9_legFrom 49 = .ok (.goto (-34), 3) := by decide +kernel
theorem dX9_legFrom_52 : decode cX9_legFrom 52 = .ok (.iload 5, 2) := by decide +kernel
theorem dX9_legFrom_54 : decode cX9_legFrom 54 = .ok (.ireturn, 1) := by decide +kernel
set_option maxRecDepth 20000 in
theorem ggX9_nextLeg_X2_endsAt : GoodIn wsX9_nextLeg wsX2_endsAt := goodIn_r _ [8, 9, 10, 15, 16, 17, 18, 19, 20, 21, 22, 23, 24, 25, 26, 27, 28, 29, 30, 31, 32] (by decide +kernel) (by decide +kernel)
set_option maxRecDepth 20000 in
theorem gX9_nextLeg_X2_endsAt : GoodIn wsX9_nextLeg (wsV RX9 74 RX2 yX2_endsAt wsX2_endsAt) := goodIn_app (goodIn_of _ (by decide +kernel)) ggX9_nextLeg_X2_endsAt
set_option maxRecDepth 20000 in
theorem ggX9_nextLeg_X2_across : GoodIn wsX9_nextLeg wsX2_across := goodIn_r _ [14, 9, 10, 15, 16, 17, 18, 19, 20, 21, 22, 23, 24, 25, 26, 27, 28, 29, 30, 31, 32] (by decide +kernel) (by decide +kernel)
set_option maxRecDepth 20000 in
theorem gX9_nextLeg_X2_across : GoodIn wsX9_nextLeg (wsV RX9 71 RX2 yX2_across wsX2_across) := goodIn_app (goodIn_of _ (by decide +kernel)) ggX9_nextLeg_X2_across
theorem dX9_nextLeg_0 : decode cX9_nextLeg 0 = .ok (.iconst 0, 1) := by decide +kernel
theorem dX9_nextLeg_1 : decode cX9_nextLeg 1 = .ok (.istore_n 3, 1) := by decide +kernel
theorem dX9_nextLeg_2 : decode cX9_nextLeg 2 = .ok (.iload_n 3, 1) := by decide +kernel
theorem dX9_nextLeg_3 : decode cX9_nextLeg 3 = .ok (.aload_n 1, 1) := by decide +kernel
theorem dX9_nextLeg_4 : decode cX9_nextLeg 4 = .ok (.getfield 34, 3) := by decide +kernel
theorem dX9_nextLeg_7 : decode cX9_nextLeg 7 = .ok (.if_icmp .ge 47, 3) := by decide +kernel
theorem dX9_nextLeg_10 : decode cX9_nextLeg 10 = .ok (.aload_n 1, 1) := by decide +kernel
theorem dX9_nextLeg_11 : decode cX9_nextLeg 11 = .ok (.iload_n 3, 1) := by decide +kernel
theorem dX9_nextLeg_12 : decode cX9_nextLeg 12 = .ok (.iload_n 2, 1) := by decide +kernel
theorem dX9_nextLeg_13 : decode cX9_nextLeg 13 = .ok (.invokevirtual 74, 3) := by decide +kernel
theorem dX9_nextLeg_16 : decode cX9_nextLeg 16 = .ok (.ifCond .eq 32, 3) := by decide +kernel
theorem dX9_nextLeg_19 : decode cX9_nextLeg 19 = .ok (.aload_n 0, 1) := by decide +kernel
theorem dX9_nextLeg_20 : decode cX9_nextLeg 20 = .ok (.getfield 9, 3) := by decide +kernel
theorem dX9_nextLeg_23 : decode cX9_nextLeg 23 = .ok (.iload_n 3, 1) := by decide +kernel
theorem dX9_nextLeg_24 : decode cX9_nextLeg 24 = .ok (.iaload, 1) := by decide +kernel
theorem dX9_nextLeg_25 : decode cX9_nextLeg 25 = .ok (.aload_n 0, 1) := by decide +kernel
theorem dX9_nextLeg_26 : decode cX9_nextLeg 26 = .ok (.getfield 15, 3) := by decide +kernel
theorem dX9_nextLeg_29 : decode cX9_nextLeg 29 = .ok (.aload_n 1, 1) := by decide +kernel
theorem dX9_nextLeg_30 : decode cX9_nextLeg 30 = .ok (.iload_n 3, 1) := by decide +kernel
theorem dX9_nextLeg_31 : decode cX9_nextLeg 31 = .ok (.iload_n 2, 1) := by decide +kernel
theorem dX9_nextLeg_32 : decode cX9_nextLeg 32 = .ok (.invokevirtual 71, 3) := by decide +kernel
theorem dX9_nextLeg_35 : decode cX9_nextLeg 35 = .ok (.iaload, 1) := by decide +kernel
theorem dX9_nextLeg_36 : decode cX9_nextLeg 36 = .ok (.iadd, 1) := by decide +kernel
theorem dX9_nextLeg_37 : decode cX9_nextLeg 37 = .ok (.aload_n 0, 1) := by decide +kernel
theorem dX9_nextLeg_38 : decode cX9_nextLeg 38 = .ok (.getfield 15, 3) := by decide +kernel
theorem dX9_nextLeg_41 : decode cX9_nextLeg 41 = .ok (.iload_n 2, 1) := by decide +kernel
theorem dX9_nextLeg_42 : decode cX9_nextLeg 42 = .ok (.iaload, 1) := by decide +kernel
theorem dX9_nextLeg_43 : decode cX9_nextLeg 43 = .ok (.if_icmp .ne 5, 3) := by decide +kernel
theorem dX9_nextLeg_46 : decode cX9_nextLeg 46 = .ok (.iload_n 3, 1) := by decide +kernel
theorem dX9_nextLeg_47 : decode cX9_nextLeg 47 = .ok (.ireturn, 1) := by decide +kernel
theorem dX9_nextLeg_48 : decode cX9_nextLeg 48 = .ok (.iinc 3 1, 3) := by decide +kernel
theorem dX9_nextLeg_51 : decode cX9_nextLeg 51 = .ok (.goto (-49), 3) := by decide +kernel
theorem dX9_nextLeg_54 : decode cX9_nextLeg 54 = .ok (.iconst (-1), 1) := by decide +kernel
theorem dX9_nextLeg_55 : decode cX9_nextLeg 55 = .ok (.ireturn, 1) := by decide +kernel
set_option maxRecDepth 20000 in
theorem ggX9_assign_X9_measure : GoodIn wsX9_assign wsX9_measure := goodIn_r _ [15, 16, 17, 3, 9, 18, 19, 20, 21, 22, 23, 24, 25, 26, 27, 28, 29, 30, 31, 32, 33, 34, 35, 36, 37, 38, 39, 40, 41, 42, 43, 44, 45, 46, 47, 48, 49, 50, 51, 52, 53, 54, 55, 56, 57, 58, 59, 60, 61, 62, 63, 64, 65, 66, 67, 68, 69, 70, 71, 72, 14, 73, 74, 75, 76, 77, 83, 84, 85, 86, 87, 88, 89, 90, 91, 92, 93, 94, 95, 96, 97, 98, 99, 100, 101, 102, 103, 104, 105, 106] (by decide +kernel) (by decide +kernel)
set_option maxRecDepth 20000 in
theorem gX9_assign_X9_measure : GoodIn wsX9_assign (wsV RX9 84 RX9 yX9_measure wsX9_measure) := goodIn_app (goodIn_of _ (by decide +kernel)) ggX9_assign_X9_measure
set_option maxRecDepth 20000 in
theorem ggX9_assign_X9_assignFrom : GoodIn wsX9_assign wsX9_assignFrom := goodIn_r _ [80, 10, 18, 81, 82, 5, 6, 7, 8, 1, 4, 78, 79, 14, 101, 102, 103, 104, 105, 106, 83, 84, 85, 86, 87, 88, 89, 90, 91, 92, 93, 94, 95, 96, 97, 98, 99, 100] (by decide +kernel) (by decide +kernel)
set_option maxRecDepth 20000 in
theorem gX9_assign_X9_assignFrom : GoodIn wsX9_assign (va_wsS RX9 94 yX9_assignFrom wsX9_assignFrom) := goodIn_app (goodIn_of _ (by decide +kernel)) ggX9_assign_X9_assignFrom
theorem dX9_assign_0 : decode cX9_assign 0 = .ok (.iconst 0, 1) := by decide +kernel
theorem dX9_assign_1 : decode cX9_assign 1 = .ok (.istore_n 2, 1) := by decide +kernel
theorem dX9_assign_2 : decode cX9_assign 2 = .ok (.iload_n 2, 1) := by decide +kernel
theorem dX9_assign_3 : decode cX9_assign 3 = .ok (.aload_n 1, 1) := by decide +kernel
theorem dX9_assign_4 : decode cX9_assign 4 = .ok (.getfield 78, 3) := by decide +kernel
theorem dX9_assign_7 : decode cX9_assign 7 = .ok (.if_icmp .ge 37, 3) := by decide +kernel
theorem dX9_assign_10 : decode cX9_assign 10 = .ok (.aload_n 0, 1) := by decide +kernel
theorem dX9_assign_11 : decode cX9_assign 11 = .ok (.aload_n 1, 1) := by decide +kernel
theorem dX9_assign_12 : decode cX9_assign 12 = .ok (.iload_n 2, 1) := by decide +kernel
theorem dX9_assign_13 : decode cX9_assign 13 = .ok (.aload_n 1, 1) := by decide +kernel
theorem dX9_assign_14 : decode cX9_assign 14 = .ok (.getfield 81, 3) := by decide +kernel
theorem dX9_assign_17 : decode cX9_assign 17 = .ok (.iload_n 2, 1) := by decide +kernel
theorem dX9_assign_18 : decode cX9_assign 18 = .ok (.iaload, 1) := by decide +kernel
theorem dX9_assign_19 : decode cX9_assign 19 = .ok (.invokevirtual 84, 3) := by decide +kernel
theorem dX9_assign_22 : decode cX9_assign 22 = .ok (.aload_n 0, 1) := by decide +kernel
theorem dX9_assign_23 : decode cX9_assign 23 = .ok (.getfield 15, 3) := by decide +kernel
theorem dX9_assign_26 : decode cX9_assign 26 = .ok (.iconst 0, 1) := by decide +kernel
theorem dX9_assign_27 : decode cX9_assign 27 = .ok (.aload_n 0, 1) := by decide +kernel
theorem dX9_assign_28 : decode cX9_assign 28 = .ok (.getfield 20, 3) := by decide +kernel
theorem dX9_assign_31 : decode cX9_assign 31 = .ok (.iload_n 2, 1) := by decide +kernel
theorem dX9_assign_32 : decode cX9_assign 32 = .ok (.aaload, 1) := by decide +kernel
theorem dX9_assign_33 : decode cX9_assign 33 = .ok (.iconst 0, 1) := by decide +kernel
theorem dX9_assign_34 : decode cX9_assign 34 = .ok (.iconst 5, 1) := by decide +kernel
theorem dX9_assign_35 : decode cX9_assign 35 = .ok (.invokestatic 88, 3) := by decide +kernel
theorem dX9_assign_38 : decode cX9_assign 38 = .ok (.iinc 2 1, 3) := by decide +kernel
theorem dX9_assign_41 : decode cX9_assign 41 = .ok (.goto (-39), 3) := by decide +kernel
theorem dX9_assign_44 : decode cX9_assign 44 = .ok (.aload_n 0, 1) := by decide +kernel
theorem dX9_assign_45 : decode cX9_assign 45 = .ok (.ldc 29, 2) := by decide +kernel
theorem dX9_assign_47 : decode cX9_assign 47 = .ok (.putfield 30, 3) := by decide +kernel
theorem dX9_assign_50 : decode cX9_assign 50 = .ok (.aload_n 0, 1) := by decide +kernel
theorem dX9_assign_51 : decode cX9_assign 51 = .ok (.aload_n 1, 1) := by decide +kernel
theorem dX9_assign_52 : decode cX9_assign 52 = .ok (.iconst 1, 1) := by decide +kernel
theorem dX9_assign_53 : decode cX9_assign 53 = .ok (.iconst 0, 1) := by decide +kernel
theorem dX9_assign_54 : decode cX9_assign 54 = .ok (.iconst 0, 1) := by decide +kernel
theorem dX9_assign_55 : decode cX9_assign 55 = .ok (.invokestatic 94, 3) := by decide +kernel
theorem dX9_assign_58 : decode cX9_assign 58 = .ok (.return_, 1) := by decide +kernel
set_option maxRecDepth 20000 in
theorem ggX9_assignFrom_X9_assignFrom : GoodIn wsX9_assignFrom wsX9_assignFrom := goodIn_r _ [0, 1, 2, 3, 4, 5, 6, 7, 8, 9, 10, 11, 12, 13, 14, 15, 16, 17, 18, 19, 20, 21, 22, 23, 24, 25, 26, 27, 28, 29, 30, 31, 32, 33, 34, 35, 36, 37] (by decide +kernel) (by decide +kernel)
set_option maxRecDepth 20000 in
theorem gX9_assignFrom_X9_assignFrom : GoodIn wsX9_assignFrom (va_wsS RX9 94 yX9_assignFrom wsX9_assignFrom) := goodIn_app (goodIn_of _ (by decide +kernel)) ggX9_assignFrom_X9_assignFrom
theorem dX9_assignFrom_0 : decode cX9_assignFrom 0 = .ok (.iload 4, 2) := by decide +kernel
theorem dX9_assignFrom_2 : decode cX9_assignFrom 2 = .ok (.aload_n 0, 1) := by decide +kernel
theorem dX9_assignFrom_3 : decode cX9_assignFrom 3 = .ok (.getfield 30, 3) := by decide +kernel
theorem dX9_assignFrom_6 : decode cX9_assignFrom 6 = .ok (.if_icmp .lt 4, 3) := by decide +kernel
theorem dX9_assignFrom_9 : decode cX9_assignFrom 9 = .ok (.return_, 1) := by decide +kernel
theorem dX9_assignFrom_10 : decode cX9_assignFrom 10 = .ok (.iload_n 2, 1) := by decide +kernel
theorem dX9_assignFrom_11 : decode cX9_assignFrom 11 = .ok (.aload_n 1, 1) := by decide +kernel
theorem dX9_assignFrom_12 : decode cX9_assignFrom 12 = .ok (.getfield 49, 3) := by decide +kernel
theorem dX9_assignFrom_15 : decode cX9_assignFrom 15 = .ok (.if_icmp .ge 8, 3) := by decide +kernel
theorem dX9_assignFrom_18 : decode cX9_assignFrom 18 = .ok (.iload_n 2, 1) := by decide +kernel
theorem dX9_assignFrom_19 : decode cX9_assignFrom 19 = .ok (.iconst 5, 1) := by decide +kernel
theorem dX9_assignFrom_20 : decode cX9_assignFrom 20 = .ok (.if_icmp .lt 24, 3) := by decide +kernel
theorem dX9_assignFrom_23 : decode cX9_assignFrom 23 = .ok (.aload_n 0, 1) := by decide +kernel
theorem dX9_assignFrom_24 : decode cX9_assignFrom 24 = .ok (.iload 4, 2) := by decide +kernel
theorem dX9_assignFrom_26 : decode cX9_assignFrom 26 = .ok (.putfield 30, 3) := by decide +kernel
theorem dX9_assignFrom_29 : decode cX9_assignFrom 29 = .ok (.aload_n 0, 1) := by decide +kernel
theorem dX9_assignFrom_30 : decode cX9_assignFrom 30 = .ok (.getfield 23, 3) := by decide +kernel
theorem dX9_assignFrom_33 : decode cX9_assignFrom 33 = .ok (.iconst 0, 1) := by decide +kernel
theorem dX9_assignFrom_34 : decode cX9_assignFrom 34 = .ok (.aload_n 0, 1) := by decide +kernel
theorem dX9_assignFrom_35 : decode cX9_assignFrom 35 = .ok (.getfield 26, 3) := by decide +kernel
theorem dX9_assignFrom_38 : decode cX9_assignFrom 38 = .ok (.iconst 0, 1) := by decide +kernel
theorem dX9_assignFrom_39 : decode cX9_assignFrom 39 = .ok (.iconst 5, 1) := by decide +kernel
theorem dX9_assignFrom_40 : decode cX9_assignFrom 40 = .ok (.invokestatic 88, 3) := by decide +kernel
theorem dX9_assignFrom_43 : decode cX9_assignFrom 43 = .ok (.return_, 1) := by decide +kernel
theorem dX9_assignFrom_44 : decode cX9_assignFrom 44 = .ok (.iconst 0, 1) := by decide +kernel
theorem dX9_assignFrom_45 : decode cX9_assignFrom 45 = .ok (.istore 5, 2) := by decide +kernel
theorem dX9_assignFrom_47 : decode cX9_assignFrom 47 = .ok (.iload 5, 2) := by decide +kernel
theorem dX9_assignFrom_49 : decode cX9_assignFrom 49 = .ok (.aload_n 1, 1) := by decide +kernel
theorem dX9_assignFrom_50 : decode cX9_assignFrom 50 = .ok (.getfield 78, 3) := by decide +kernel
theorem dX9_assignFrom_53 : decode cX9_assignFrom 53 = .ok (.if_icmp .ge 52, 3) := by decide +kernel
theorem dX9_assignFrom_56 : decode cX9_assignFrom 56 = .ok (.iload_n 3, 1) := by decide +kernel
theorem dX9_assignFrom_57 : decode cX9_assignFrom 57 = .ok (.iload 5, 2) := by decide +kernel
theorem dX9_assignFrom_59 : decode cX9_assignFrom 59 = .ok (.ishr, 1) := by decide +kernel
theorem dX9_assignFrom_60 : decode cX9_assignFrom 60 = .ok (.iconst 1, 1) := by decide +kernel
theorem dX9_assignFrom_61 : decode cX9_assignFrom 61 = .ok (.iand, 1) := by decide +kernel
theorem dX9_assignFrom_62 : decode cX9_assignFrom 62 = .ok (.ifCond .ne 37, 3) := by decide +kernel
theorem dX9_assignFrom_65 : decode cX9_assignFrom 65 = .ok (.aload_n 0, 1) := by decide +kernel
theorem dX9_assignFrom_66 : decode cX9_assignFrom 66 = .ok (.getfield 23, 3) := by decide +kernel
theorem dX9_assignFrom_69 : decode cX9_assignFrom 69 = .ok (.iload_n 2, 1) := by decide +kernel
theorem dX9_assignFrom_70 : decode cX9_assignFrom 70 = .ok (.iload 5, 2) := by decide +kernel
theorem dX9_assignFrom_72 : decode cX9_assignFrom 72 = .ok (.iastore, 1) := by decide +kernel
theorem dX9_assignFrom_73 : decode cX9_assignFrom 73 = .ok (.aload_n 0, 1) := by decide +kernel
theorem dX9_assignFrom_74 : decode cX9_assignFrom 74 = .ok (.aload_n 1, 1) := by decide +kernel
theorem dX9_assignFrom_75 : decode cX9_assignFrom 75 = .ok (.iload_n 2, 1) := by decide +kernel
theorem dX9_assignFrom_76 : decode cX9_assignFrom 76 = .ok (.iconst 1, 1) := by decide +kernel
theorem dX9_assignFrom_77 : decode cX9_assignFrom 77 = .ok (.iadd, 1) := by decide +kernel
theorem dX9_assignFrom_78 : decode cX9_assignFrom 78 = .ok (.iload_n 3, 1) := by decide +kernel
theorem dX9_assignFrom_79 : decode cX9_assignFrom 79 = .ok (.iconst 1, 1) := by decide +kernel
theorem dX9_assignFrom_80 : decode cX9_assignFrom 80 = .ok (.iload 5, 2) := by decide +kernel
theorem dX9_assignFrom_82 : decode cX9_assignFrom 82 = .ok (.ishl, 1) := by decide +kernel
theorem dX9_assignFrom_83 : decode cX9_assignFrom 83 = .ok (.ior, 1) := by decide +kernel
theorem dX9_assignFrom_84 : decode cX9_assignFrom 84 = .ok (.iload 4, 2) := by decide +kernel
theorem dX9_assignFrom_86 : decode cX9_assignFrom 86 = .ok (.aload_n 0, 1) := by decide +kernel
theorem dX9_assignFrom_87 : decode cX9_assignFrom 87 = .ok (.getfield 20, 3) := by decide +kernel
theorem dX9_assignFrom_90 : decode cX9_assignFrom 90 = .ok (.iload 5, 2) := by decide +kernel
theorem dX9_assignFrom_92 : decode cX9_assignFrom 92 = .ok (.aaload, 1) := by decide +kernel
theorem dX9_assignFrom_93 : decode cX9_assignFrom 93 = .ok (.iload_n 2, 1) := by decide +kernel
theorem dX9_assignFrom_94 : decode cX9_assignFrom 94 = .ok (.iaload, 1) := by decide +kernel
theorem dX9_assignFrom_95 : decode cX9_assignFrom 95 = .ok (.iadd, 1) := by decide +kernel
theorem dX9_assignFrom_96 : decode cX9_assignFrom 96 = .ok (.invokestatic 94, 3) := by decide +kernel
theorem dX9_assignFrom_99 : decode cX9_assignFrom 99 = .ok (.iinc 5 1, 3) := by decide +kernel
theorem dX9_assignFrom_102 : decode cX9_assignFrom 102 = .ok (.goto (-55), 3) := by decide +kernel
theorem dX9_assignFrom_105 : decode cX9_assignFrom 105 = .ok (.return_, 1) := by decide +kernel
theorem dX9_assignedSteps_0 : decode cX9_assignedSteps 0 = .ok (.aload_n 0, 1) := by decide +kernel
theorem dX9_assignedSteps_1 : decode cX9_assignedSteps 1 = .ok (.getfield 30, 3) := by decide +kernel
theorem dX9_assignedSteps_4 : decode cX9_assignedSteps 4 = .ok (.ldc 29, 2) := by decide +kernel
theorem dX9_assignedSteps_6 : decode cX9_assignedSteps 6 = .ok (.if_icmp .ge 10, 3) := by decide +kernel
theorem dX9_assignedSteps_9 : decode cX9_assignedSteps 9 = .ok (.aload_n 0, 1) := by decide +kernel
theorem dX9_assignedSteps_10 : decode cX9_assignedSteps 10 = .ok (.getfield 30, 3) := by decide +kernel
theorem dX9_assignedSteps_13 : decode cX9_assignedSteps 13 = .ok (.goto 4, 3) := by decide +kernel
theorem dX9_assignedSteps_16 : decode cX9_assignedSteps 16 = .ok (.iconst (-1), 1) := by decide +kernel
theorem dX9_assignedSteps_17 : decode cX9_assignedSteps 17 = .ok (.ireturn, 1) := by decide +kernel
set_option maxRecDepth 20000 in
theorem ggX9_assignedTo_X2_hasRoom : GoodIn wsX9_assignedTo wsX2_hasRoom := goodIn_r _ [8, 9, 16, 17, 18, 19, 20, 21, 22, 23, 24, 25, 26, 27, 28, 29, 30, 31, 32, 33] (by decide +kernel) (by decide +kernel)
set_option maxRecDepth 20000 in
theorem gX9_assignedTo_X2_hasRoom : GoodIn wsX9_assignedTo (wsV RX9 98 RX2 yX2_hasRoom wsX2_hasRoom) := goodIn_app (goodIn_of _ (by decide +kernel)) ggX9_assignedTo_X2_hasRoom
theorem dX9_assignedTo_0 : decode cX9_assignedTo 0 = .ok (.aload_n 0, 1) := by decide +kernel
theorem dX9_assignedTo_1 : decode cX9_assignedTo 1 = .ok (.getfield 30, 3) := by decide +kernel
theorem dX9_assignedTo_4 : decode cX9_assignedTo 4 = .ok (.ldc 29, 2) := by decide +kernel
theorem dX9_assignedTo_6 : decode cX9_assignedTo 6 = .ok (.if_icmp .ge 20, 3) := by decide +kernel
theorem dX9_assignedTo_9 : decode cX9_assignedTo 9 = .ok (.aload_n 1, 1) := by decide +kernel
theorem dX9_assignedTo_10 : decode cX9_assignedTo 10 = .ok (.iload_n 2, 1) := by decide +kernel
theorem dX9_assignedTo_11 : decode cX9_assignedTo 11 = .ok (.invokevirtual 98, 3) := by decide +kernel
theorem dX9_assignedTo_14 : decode cX9_assignedTo 14 = .ok (.ifCond .eq 12, 3) := by decide +kernel
theorem dX9_assignedTo_17 : decode cX9_assignedTo 17 = .ok (.aload_n 0, 1) := by decide +kernel
theorem dX9_assignedTo_18 : decode cX9_assignedTo 18 = .ok (.getfield 26, 3) := by decide +kernel
theorem dX9_assignedTo_21 : decode cX9_assignedTo 21 = .ok (.iload_n 2, 1) := by decide +kernel
theorem dX9_assignedTo_22 : decode cX9_assignedTo 22 = .ok (.iaload, 1) := by decide +kernel
theorem dX9_assignedTo_23 : decode cX9_assignedTo 23 = .ok (.goto 4, 3) := by decide +kernel
theorem dX9_assignedTo_26 : decode cX9_assignedTo 26 = .ok (.iconst (-1), 1) := by decide +kernel
theorem dX9_assignedTo_27 : decode cX9_assignedTo 27 = .ok (.ireturn, 1) := by decide +kernel
set_option maxRecDepth 20000 in
theorem ggX10_init_X1_init : GoodIn wsX10_init wsX1_init := goodIn_r _ [3, 4, 5, 6] (by decide +kernel) (by decide +kernel)
set_option maxRecDepth 20000 in
theorem gX10_init_X1_init_n1 : GoodIn wsX10_init (wsX1_init) := ggX10_init_X1_init
theorem dX10_init_0 : decode cX10_init 0 = .ok (.aload_n 0, 1) := by decide +kernel
theorem dX10_init_1 : decode cX10_init 1 = .ok (.invokespecial 1, 3) := by decide +kernel
theorem dX10_init_4 : decode cX10_init 4 = .ok (.return_, 1) := by decide +kernel
set_option maxRecDepth 20000 in
theorem ggX10_yards_X1_yards : GoodIn wsX10_yards wsX1_yards := goodIn_r _ [6] (by decide +kernel) (by decide +kernel)
set_option maxRecDepth 20000 in
theorem gX10_yards_X1_yards_s7 : GoodIn wsX10_yards (va_wsSU RX10 7 yX1_yards wsX1_yards) := goodIn_app (goodIn_of _ (by decide +kernel)) ggX10_yards_X1_yards
theorem dX10_yards_0 : decode cX10_yards 0 = .ok (.aload_n 0, 1) := by decide +kernel
theorem dX10_yards_1 : decode cX10_yards 1 = .ok (.iload_n 1, 1) := by decide +kernel
theorem dX10_yards_2 : decode cX10_yards 2 = .ok (.iload_n 2, 1) := by decide +kernel
theorem dX10_yards_3 : decode cX10_yards 3 = .ok (.iload_n 3, 1) := by decide +kernel
theorem dX10_yards_4 : decode cX10_yards 4 = .ok (.invokespecial 7, 3) := by decide +kernel
theorem dX10_yards_7 : decode cX10_yards 7 = .ok (.iconst 4, 1) := by decide +kernel
theorem dX10_yards_8 : decode cX10_yards 8 = .ok (.iadd, 1) := by decide +kernel
theorem dX10_yards_9 : decode cX10_yards 9 = .ok (.iconst 5, 1) := by decide +kernel
theorem dX10_yards_10 : decode cX10_yards 10 = .ok (.idiv, 1) := by decide +kernel
theorem dX10_yards_11 : decode cX10_yards 11 = .ok (.ireturn, 1) := by decide +kernel
