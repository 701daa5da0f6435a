set_option maxRecDepth 20000 in
theorem ggX12_sendNow_X12_farFrom : GoodIn wsX12_sendNow wsX12_farFrom := goodIn_r _ [12, 13, 7, 14, 15, 16, 11, 17, 2, 18, 19, 20, 21, 22, 23, 24, 25, 26, 27, 28, 40, 41, 42, 43, 44, 45, 46, 47, 48, 49, 50, 51, 52, 53, 54, 55, 56, 57, 58, 59, 60, 61, 62, 63, 64, 65, 66, 67, 68, 69, 70, 71, 72, 73, 74, 75, 76, 77, 78, 79, 80, 81, 82, 83, 84, 85, 86, 87, 88] (by decide +kernel) (by decide +kernel)
set_option maxRecDepth 20000 in
theorem gX12_sendNow_X12_farFrom : GoodIn wsX12_sendNow (wsV RX12 212 RX12 yX12_farFrom wsX12_farFrom) := goodIn_app (goodIn_of _ (by decide +kernel)) ggX12_sendNow_X12_farFrom
set_option maxRecDepth 20000 in
theorem ggX12_sendNow_X12_sentSteps : GoodIn wsX12_sendNow wsX12_sentSteps := goodIn_r _ [32, 2, 3, 5, 7, 33, 34, 11, 35, 40, 41, 42, 43, 44, 45, 46, 47, 48, 49, 50, 51, 52, 53, 54, 55, 56, 57, 58, 59, 60, 61, 62, 63, 64, 65, 66, 67, 68, 69, 70, 71, 72, 73, 74, 75, 76, 77, 78, 79, 80, 81, 82, 83, 84, 85, 86, 87, 88] (by decide +kernel) (by decide +kernel)
set_option maxRecDepth 20000 in
theorem gX12_sendNow_X12_sentSteps : GoodIn wsX12_sendNow (wsV RX12 228 RX12 yX12_sentSteps wsX12_sentSteps) := goodIn_app (goodIn_of _ (by decide +kernel)) ggX12_sendNow_X12_sentSteps
set_option maxRecDepth 20000 in
theorem ggX12_sendNow_X12_nextSent : GoodIn wsX12_sendNow wsX12_nextSent := goodIn_r _ [39, 2, 5, 1, 40, 41, 42, 43, 44, 45, 46, 47, 48, 49, 50, 51, 52, 53, 54, 55, 56, 57, 58, 59, 60, 61, 62, 63, 64, 65, 66, 67, 68, 69, 70, 71, 72, 73, 74, 75, 76, 77, 78, 79, 80, 81, 82, 83, 84, 85, 86, 87, 88] (by decide +kernel) (by decide +kernel)
set_option maxRecDepth 20000 in
theorem gX12_sendNow_X12_nextSent : GoodIn wsX12_sendNow (wsV RX12 231 RX12 yX12_nextSent wsX12_nextSent) := goodIn_app (goodIn_of _ (by decide +kernel)) ggX12_sendNow_X12_nextSent
theorem dX12_sendNow_0 : decode cX12_sendNow 0 = .ok (.iconst 0, 1) := by decide +kernel
theorem dX12_sendNow_1 : decode cX12_sendNow 1 = .ok (.istore_n 2, 1) := by decide +kernel
theorem dX12_sendNow_2 : decode cX12_sendNow 2 = .ok (.iload_n 2, 1) := by decide +kernel
theorem dX12_sendNow_3 : decode cX12_sendNow 3 = .ok (.aload_n 0, 1) := by decide +kernel
theorem dX12_sendNow_4 : decode cX12_sendNow 4 = .ok (.getfield 156, 3) := by decide +kernel
theorem dX12_sendNow_7 : decode cX12_sendNow 7 = .ok (.if_icmp .ge 47, 3) := by decide +kernel
theorem dX12_sendNow_10 : decode cX12_sendNow 10 = .ok (.iconst 0, 1) := by decide +kernel
theorem dX12_sendNow_11 : decode cX12_sendNow 11 = .ok (.istore_n 3, 1) := by decide +kernel
theorem dX12_sendNow_12 : decode cX12_sendNow 12 = .ok (.iload_n 3, 1) := by decide +kernel
theorem dX12_sendNow_13 : decode cX12_sendNow 13 = .ok (.aload_n 0, 1) := by decide +kernel
theorem dX12_sendNow_14 : decode cX12_sendNow 14 = .ok (.getfield 150, 3) := by decide +kernel
theorem dX12_sendNow_17 : decode cX12_sendNow 17 = .ok (.if_icmp .ge 31, 3) := by decide +kernel
theorem dX12_sendNow_20 : decode cX12_sendNow 20 = .ok (.aload_n 0, 1) := by decide +kernel
theorem dX12_sendNow_21 : decode cX12_sendNow 21 = .ok (.getfield 59, 3) := by decide +kernel
theorem dX12_sendNow_24 : decode cX12_sendNow 24 = .ok (.iconst 5, 1) := by decide +kernel
theorem dX12_sendNow_25 : decode cX12_sendNow 25 = .ok (.iload_n 2, 1) := by decide +kernel
theorem dX12_sendNow_26 : decode cX12_sendNow 26 = .ok (.imul, 1) := by decide +kernel
theorem dX12_sendNow_27 : decode cX12_sendNow 27 = .ok (.iload_n 3, 1) := by decide +kernel
theorem dX12_sendNow_28 : decode cX12_sendNow 28 = .ok (.iadd, 1) := by decide +kernel
theorem dX12_sendNow_29 : decode cX12_sendNow 29 = .ok (.aload_n 0, 1) := by decide +kernel
theorem dX12_sendNow_30 : decode cX12_sendNow 30 = .ok (.iload_n 2, 1) := by decide +kernel
theorem dX12_sendNow_31 : decode cX12_sendNow 31 = .ok (.aload_n 0, 1) := by decide +kernel
theorem dX12_sendNow_32 : decode cX12_sendNow 32 = .ok (.getfield 28, 3) := by decide +kernel
theorem dX12_sendNow_35 : decode cX12_sendNow 35 = .ok (.iload_n 2, 1) := by decide +kernel
theorem dX12_sendNow_36 : decode cX12_sendNow 36 = .ok (.iaload, 1) := by decide +kernel
theorem dX12_sendNow_37 : decode cX12_sendNow 37 = .ok (.iload_n 3, 1) := by decide +kernel
theorem dX12_sendNow_38 : decode cX12_sendNow 38 = .ok (.invokevirtual 212, 3) := by decide +kernel
theorem dX12_sendNow_41 : decode cX12_sendNow 41 = .ok (.iastore, 1) := by decide +kernel
theorem dX12_sendNow_42 : decode cX12_sendNow 42 = .ok (.iinc 3 1, 3) := by decide +kernel
theorem dX12_sendNow_45 : decode cX12_sendNow 45 = .ok (.goto (-33), 3) := by decide +kernel
theorem dX12_sendNow_48 : decode cX12_sendNow 48 = .ok (.iinc 2 1, 3) := by decide +kernel
theorem dX12_sendNow_51 : decode cX12_sendNow 51 = .ok (.goto (-49), 3) := by decide +kernel
theorem dX12_sendNow_54 : decode cX12_sendNow 54 = .ok (.iconst 0, 1) := by decide +kernel
theorem dX12_sendNow_55 : decode cX12_sendNow 55 = .ok (.istore_n 2, 1) := by decide +kernel
theorem dX12_sendNow_56 : decode cX12_sendNow 56 = .ok (.iload_n 2, 1) := by decide +kernel
theorem dX12_sendNow_57 : decode cX12_sendNow 57 = .ok (.iconst 5, 1) := by decide +kernel
theorem dX12_sendNow_58 : decode cX12_sendNow 58 = .ok (.if_icmp .ge 23, 3) := by decide +kernel
theorem dX12_sendNow_61 : decode cX12_sendNow 61 = .ok (.aload_n 0, 1) := by decide +kernel
theorem dX12_sendNow_62 : decode cX12_sendNow 62 = .ok (.getfield 53, 3) := by decide +kernel
theorem dX12_sendNow_65 : decode cX12_sendNow 65 = .ok (.iload_n 2, 1) := by decide +kernel
theorem dX12_sendNow_66 : decode cX12_sendNow 66 = .ok (.iconst 0, 1) := by decide +kernel
theorem dX12_sendNow_67 : decode cX12_sendNow 67 = .ok (.iastore, 1) := by decide +kernel
theorem dX12_sendNow_68 : decode cX12_sendNow 68 = .ok (.aload_n 0, 1) := by decide +kernel
theorem dX12_sendNow_69 : decode cX12_sendNow 69 = .ok (.getfield 56, 3) := by decide +kernel
theorem dX12_sendNow_72 : decode cX12_sendNow 72 = .ok (.iload_n 2, 1) := by decide +kernel
theorem dX12_sendNow_73 : decode cX12_sendNow 73 = .ok (.iconst (-1), 1) := by decide +kernel
theorem dX12_sendNow_74 : decode cX12_sendNow 74 = .ok (.iastore, 1) := by decide +kernel
theorem dX12_sendNow_75 : decode cX12_sendNow 75 = .ok (.iinc 2 1, 3) := by decide +kernel
theorem dX12_sendNow_78 : decode cX12_sendNow 78 = .ok (.goto (-22), 3) := by decide +kernel
theorem dX12_sendNow_81 : decode cX12_sendNow 81 = .ok (.ldc 207, 2) := by decide +kernel
theorem dX12_sendNow_83 : decode cX12_sendNow 83 = .ok (.istore_n 2, 1) := by decide +kernel
theorem dX12_sendNow_84 : decode cX12_sendNow 84 = .ok (.iconst 1, 1) := by decide +kernel
theorem dX12_sendNow_85 : decode cX12_sendNow 85 = .ok (.istore_n 3, 1) := by decide +kernel
theorem dX12_sendNow_86 : decode cX12_sendNow 86 = .ok (.iload_n 3, 1) := by decide +kernel
theorem dX12_sendNow_87 : decode cX12_sendNow 87 = .ok (.ifCond .eq 58, 3) := by decide +kernel
theorem dX12_sendNow_90 : decode cX12_sendNow 90 = .ok (.aload_n 0, 1) := by decide +kernel
theorem dX12_sendNow_91 : decode cX12_sendNow 91 = .ok (.invokevirtual 228, 3) := by decide +kernel
theorem dX12_sendNow_94 : decode cX12_sendNow 94 = .ok (.istore 4, 2) := by decide +kernel
theorem dX12_sendNow_96 : decode cX12_sendNow 96 = .ok (.iload 4, 2) := by decide +kernel
theorem dX12_sendNow_98 : decode cX12_sendNow 98 = .ok (.iload_n 2, 1) := by decide +kernel
theorem dX12_sendNow_99 : decode cX12_sendNow 99 = .ok (.if_icmp .ge 38, 3) := by decide +kernel
theorem dX12_sendNow_102 : decode cX12_sendNow 102 = .ok (.iload 4, 2) := by decide +kernel
theorem dX12_sendNow_104 : decode cX12_sendNow 104 = .ok (.istore_n 2, 1) := by decide +kernel
theorem dX12_sendNow_105 : decode cX12_sendNow 105 = .ok (.iconst 1, 1) := by decide +kernel
theorem dX12_sendNow_106 : decode cX12_sendNow 106 = .ok (.istore 5, 2) := by decide +kernel
theorem dX12_sendNow_108 : decode cX12_sendNow 108 = .ok (.iload 5, 2) := by decide +kernel
theorem dX12_sendNow_110 : decode cX12_sendNow 110 = .ok (.aload_n 0, 1) := by decide +kernel
theorem dX12_sendNow_111 : decode cX12_sendNow 111 = .ok (.getfield 150, 3) := by decide +kernel
theorem dX12_sendNow_114 : decode cX12_sendNow 114 = .ok (.if_icmp .ge 23, 3) := by decide +kernel
theorem dX12_sendNow_117 : decode cX12_sendNow 117 = .ok (.aload_n 0, 1) := by decide +kernel
theorem dX12_sendNow_118 : decode cX12_sendNow 118 = .ok (.getfield 56, 3) := by decide +kernel
theorem dX12_sendNow_121 : decode cX12_sendNow 121 = .ok (.iload 5, 2) := by decide +kernel
theorem dX12_sendNow_123 : decode cX12_sendNow 123 = .ok (.aload_n 0, 1) := by decide +kernel
theorem dX12_sendNow_124 : decode cX12_sendNow 124 = .ok (.getfield 53, 3) := by decide +kernel
theorem dX12_sendNow_127 : decode cX12_sendNow 127 = .ok (.iload 5, 2) := by decide +kernel
theorem dX12_sendNow_129 : decode cX12_sendNow 129 = .ok (.iaload, 1) := by decide +kernel
theorem dX12_sendNow_130 : decode cX12_sendNow 130 = .ok (.iastore, 1) := by decide +kernel
theorem dX12_sendNow_131 : decode cX12_sendNow 131 = .ok (.iinc 5 1, 3) := by decide +kernel
theorem dX12_sendNow_134 : decode cX12_sendNow 134 = .ok (.goto (-26), 3) := by decide +kernel
theorem dX12_sendNow_137 : decode cX12_sendNow 137 = .ok (.aload_n 0, 1) := by decide +kernel
theorem dX12_sendNow_138 : decode cX12_sendNow 138 = .ok (.invokevirtual 231, 3) := by decide +kernel
theorem dX12_sendNow_141 : decode cX12_sendNow 141 = .ok (.istore_n 3, 1) := by decide +kernel
theorem dX12_sendNow_142 : decode cX12_sendNow 142 = .ok (.goto (-56), 3) := by decide +kernel
theorem dX12_sendNow_145 : decode cX12_sendNow 145 = .ok (.iload_n 1, 1) := by decide +kernel
theorem dX12_sendNow_146 : decode cX12_sendNow 146 = .ok (.ifCond .le 15, 3) := by decide +kernel
theorem dX12_sendNow_149 : decode cX12_sendNow 149 = .ok (.aload_n 0, 1) := by decide +kernel
theorem dX12_sendNow_150 : decode cX12_sendNow 150 = .ok (.getfield 56, 3) := by decide +kernel
theorem dX12_sendNow_153 : decode cX12_sendNow 153 = .ok (.iload_n 1, 1) := by decide +kernel
theorem dX12_sendNow_154 : decode cX12_sendNow 154 = .ok (.bipush 10, 2) := by decide +kernel
theorem dX12_sendNow_156 : decode cX12_sendNow 156 = .ok (.isub, 1) := by decide +kernel
theorem dX12_sendNow_157 : decode cX12_sendNow 157 = .ok (.iaload, 1) := by decide +kernel
theorem dX12_sendNow_158 : decode cX12_sendNow 158 = .ok (.goto 14, 3) := by decide +kernel
theorem dX12_sendNow_161 : decode cX12_sendNow 161 = .ok (.iload_n 2, 1) := by decide +kernel
theorem dX12_sendNow_162 : decode cX12_sendNow 162 = .ok (.ldc 207, 2) := by decide +kernel
theorem dX12_sendNow_164 : decode cX12_sendNow 164 = .ok (.if_icmp .ne 7, 3) := by decide +kernel
theorem dX12_sendNow_167 : decode cX12_sendNow 167 = .ok (.iconst (-1), 1) := by decide +kernel
theorem dX12_sendNow_168 : decode cX12_sendNow 168 = .ok (.goto 4, 3) := by decide +kernel
theorem dX12_sendNow_171 : decode cX12_sendNow 171 = .ok (.iload_n 2, 1) := by decide +kernel
theorem dX12_sendNow_172 : decode cX12_sendNow 172 = .ok (.ireturn, 1) := by decide +kernel
set_option maxRecDepth 20000 in
theorem ggX12_send_X12_within : GoodIn wsX12_send wsX12_within := goodIn_r _ [6] (by decide +kernel) (by decide +kernel)
set_option maxRecDepth 20000 in
theorem gX12_send_X12_within : GoodIn wsX12_send (va_wsS RX12 108 yX12_within wsX12_within) := goodIn_app (goodIn_of _ (by decide +kernel)) ggX12_send_X12_within
set_option maxRecDepth 20000 in
theorem ggX12_send_X12_sendNow : GoodIn wsX12_send wsX12_sendNow := goodIn_r _ [10, 1, 11, 12, 13, 14, 15, 16, 17, 18, 19, 5, 20, 21, 22, 23, 24, 25, 26, 27, 28, 29, 30, 31, 32, 33, 34, 35, 36, 37, 38, 39, 40, 41, 42, 43, 44, 45, 46, 47, 48, 49, 50, 51, 52, 53, 54, 55, 56, 57, 58, 59, 60, 61, 62, 63, 64, 65, 66, 67, 68, 69, 70, 71, 72, 73, 74, 75, 76, 77, 78, 79, 80, 81, 82, 83, 84, 85, 86, 87, 88, 89, 90, 91, 92, 93, 94, 95, 96] (by decide +kernel) (by decide +kernel)
set_option maxRecDepth 20000 in
theorem gX12_send_X12_sendNow : GoodIn wsX12_send (wsV RX12 238 RX12 yX12_sendNow wsX12_sendNow) := goodIn_app (goodIn_of _ (by decide +kernel)) ggX12_send_X12_sendNow
theorem dX12_send_0 : decode cX12_send 0 = .ok (.iload_n 1, 1) := by decide +kernel
theorem dX12_send_1 : decode cX12_send 1 = .ok (.ifCond .eq 17, 3) := by decide +kernel
theorem dX12_send_4 : decode cX12_send 4 = .ok (.iload_n 1, 1) := by decide +kernel
theorem dX12_send_5 : decode cX12_send 5 = .ok (.bipush 11, 2) := by decide +kernel
theorem dX12_send_7 : decode cX12_send 7 = .ok (.bipush 14, 2) := by decide +kernel
theorem dX12_send_9 : decode cX12_send 9 = .ok (.invokestatic 108, 3) := by decide +kernel
theorem dX12_send_12 : decode cX12_send 12 = .ok (.ifCond .ne 6, 3) := by decide +kernel
theorem dX12_send_15 : decode cX12_send 15 = .ok (.bipush (-102), 2) := by decide +kernel
theorem dX12_send_17 : decode cX12_send 17 = .ok (.ireturn, 1) := by decide +kernel
theorem dX12_send_18 : decode cX12_send 18 = .ok (.aload_n 0, 1) := by decide +kernel
theorem dX12_send_19 : decode cX12_send 19 = .ok (.getfield 156, 3) := by decide +kernel
theorem dX12_send_22 : decode cX12_send 22 = .ok (.ifCond .eq 12, 3) := by decide +kernel
theorem dX12_send_25 : decode cX12_send 25 = .ok (.aload_n 0, 1) := by decide +kernel
theorem dX12_send_26 : decode cX12_send 26 = .ok (.getfield 235, 3) := by decide +kernel
theorem dX12_send_29 : decode cX12_send 29 = .ok (.bipush 30, 2) := by decide +kernel
theorem dX12_send_31 : decode cX12_send 31 = .ok (.if_icmp .ne 6, 3) := by decide +kernel
theorem dX12_send_34 : decode cX12_send 34 = .ok (.bipush (-103), 2) := by decide +kernel
theorem dX12_send_36 : decode cX12_send 36 = .ok (.ireturn, 1) := by decide +kernel
theorem dX12_send_37 : decode cX12_send 37 = .ok (.aload_n 0, 1) := by decide +kernel
theorem dX12_send_38 : decode cX12_send 38 = .ok (.dup, 1) := by decide +kernel
theorem dX12_send_39 : decode cX12_send 39 = .ok (.getfield 235, 3) := by decide +kernel
theorem dX12_send_42 : decode cX12_send 42 = .ok (.iconst 1, 1) := by decide +kernel
theorem dX12_send_43 : decode cX12_send 43 = .ok (.iadd, 1) := by decide +kernel
theorem dX12_send_44 : decode cX12_send 44 = .ok (.putfield 235, 3) := by decide +kernel
theorem dX12_send_47 : decode cX12_send 47 = .ok (.aload_n 0, 1) := by decide +kernel
theorem dX12_send_48 : decode cX12_send 48 = .ok (.iload_n 1, 1) := by decide +kernel
theorem dX12_send_49 : decode cX12_send 49 = .ok (.invokevirtual 238, 3) := by decide +kernel
theorem dX12_send_52 : decode cX12_send 52 = .ok (.ireturn, 1) := by decide +kernel
theorem dX12_arePairs_0 : decode cX12_arePairs 0 = .ok (.iconst 1, 1) := by decide +kernel
theorem dX12_arePairs_1 : decode cX12_arePairs 1 = .ok (.istore_n 1, 1) := by decide +kernel
theorem dX12_arePairs_2 : decode cX12_arePairs 2 = .ok (.iconst 0, 1) := by decide +kernel
theorem dX12_arePairs_3 : decode cX12_arePairs 3 = .ok (.istore_n 2, 1) := by decide +kernel
theorem dX12_arePairs_4 : decode cX12_arePairs 4 = .ok (.iload_n 2, 1) := by decide +kernel
theorem dX12_arePairs_5 : decode cX12_arePairs 5 = .ok (.aload_n 0, 1) := by decide +kernel
theorem dX12_arePairs_6 : decode cX12_arePairs 6 = .ok (.getfield 156, 3) := by decide +kernel
theorem dX12_arePairs_9 : decode cX12_arePairs 9 = .ok (.if_icmp .ge 49, 3) := by decide +kernel
theorem dX12_arePairs_12 : decode cX12_arePairs 12 = .ok (.aload_n 0, 1) := by decide +kernel
theorem dX12_arePairs_13 : decode cX12_arePairs 13 = .ok (.getfield 62, 3) := by decide +kernel
theorem dX12_arePairs_16 : decode cX12_arePairs 16 = .ok (.iload_n 2, 1) := by decide +kernel
theorem dX12_arePairs_17 : decode cX12_arePairs 17 = .ok (.iaload, 1) := by decide +kernel
theorem dX12_arePairs_18 : decode cX12_arePairs 18 = .ok (.iconst 1, 1) := by decide +kernel
theorem dX12_arePairs_19 : decode cX12_arePairs 19 = .ok (.isub, 1) := by decide +kernel
theorem dX12_arePairs_20 : decode cX12_arePairs 20 = .ok (.istore_n 3, 1) := by decide +kernel
theorem dX12_arePairs_21 : decode cX12_arePairs 21 = .ok (.iload_n 1, 1) := by decide +kernel
theorem dX12_arePairs_22 : decode cX12_arePairs 22 = .ok (.ifCond .eq 28, 3) := by decide +kernel
theorem dX12_arePairs_25 : decode cX12_arePairs 25 = .ok (.iload_n 3, 1) := by decide +kernel
theorem dX12_arePairs_26 : decode cX12_arePairs 26 = .ok (.ifCond .lt 20, 3) := by decide +kernel
theorem dX12_arePairs_29 : decode cX12_arePairs 29 = .ok (.iload_n 3, 1) := by decide +kernel
theorem dX12_arePairs_30 : decode cX12_arePairs 30 = .ok (.iload_n 2, 1) := by decide +kernel
theorem dX12_arePairs_31 : decode cX12_arePairs 31 = .ok (.if_icmp .eq 19, 3) := by decide +kernel
theorem dX12_arePairs_34 : decode cX12_arePairs 34 = .ok (.aload_n 0, 1) := by decide +kernel
theorem dX12_arePairs_35 : decode cX12_arePairs 35 = .ok (.getfield 62, 3) := by decide +kernel
theorem dX12_arePairs_38 : decode cX12_arePairs 38 = .ok (.iload_n 3, 1) := by decide +kernel
theorem dX12_arePairs_39 : decode cX12_arePairs 39 = .ok (.iaload, 1) := by decide +kernel
theorem dX12_arePairs_40 : decode cX12_arePairs 40 = .ok (.iload_n 2, 1) := by decide +kernel
theorem dX12_arePairs_41 : decode cX12_arePairs 41 = .ok (.iconst 1, 1) := by decide +kernel
theorem dX12_arePairs_42 : decode cX12_arePairs 42 = .ok (.iadd, 1) := by decide +kernel
theorem dX12_arePairs_43 : decode cX12_arePairs 43 = .ok (.if_icmp .ne 7, 3) := by decide +kernel
theorem dX12_arePairs_46 : decode cX12_arePairs 46 = .ok (.iconst 1, 1) := by decide +kernel
theorem dX12_arePairs_47 : decode cX12_arePairs 47 = .ok (.goto 4, 3) := by decide +kernel
theorem dX12_arePairs_50 : decode cX12_arePairs 50 = .ok (.iconst 0, 1) := by decide +kernel
theorem dX12_arePairs_51 : decode cX12_arePairs 51 = .ok (.istore_n 1, 1) := by decide +kernel
theorem dX12_arePairs_52 : decode cX12_arePairs 52 = .ok (.iinc 2 1, 3) := by decide +kernel
theorem dX12_arePairs_55 : decode cX12_arePairs 55 = .ok (.goto (-51), 3) := by decide +kernel
theorem dX12_arePairs_58 : decode cX12_arePairs 58 = .ok (.iload_n 1, 1) := by decide +kernel
theorem dX12_arePairs_59 : decode cX12_arePairs 59 = .ok (.ireturn, 1) := by decide +kernel
theorem dX12_nextMates_0 : decode cX12_nextMates 0 = .ok (.aload_n 0, 1) := by decide +kernel
theorem dX12_nextMates_1 : decode cX12_nextMates 1 = .ok (.getfield 156, 3) := by decide +kernel
theorem dX12_nextMates_4 : decode cX12_nextMates 4 = .ok (.iconst 1, 1) := by decide +kernel
theorem dX12_nextMates_5 : decode cX12_nextMates 5 = .ok (.isub, 1) := by decide +kernel
theorem dX12_nextMates_6 : decode cX12_nextMates 6 = .ok (.istore_n 1, 1) := by decide +kernel
theorem dX12_nextMates_7 : decode cX12_nextMates 7 = .ok (.iload_n 1, 1) := by decide +kernel
theorem dX12_nextMates_8 : decode cX12_nextMates 8 = .ok (.ifCond .lt 29, 3) := by decide +kernel
theorem dX12_nextMates_11 : decode cX12_nextMates 11 = .ok (.aload_n 0, 1) := by decide +kernel
theorem dX12_nextMates_12 : decode cX12_nextMates 12 = .ok (.getfield 62, 3) := by decide +kernel
theorem dX12_nextMates_15 : decode cX12_nextMates 15 = .ok (.iload_n 1, 1) := by decide +kernel
theorem dX12_nextMates_16 : decode cX12_nextMates 16 = .ok (.iaload, 1) := by decide +kernel
theorem dX12_nextMates_17 : decode cX12_nextMates 17 = .ok (.aload_n 0, 1) := by decide +kernel
theorem dX12_nextMates_18 : decode cX12_nextMates 18 = .ok (.getfield 156, 3) := by decide +kernel
theorem dX12_nextMates_21 : decode cX12_nextMates 21 = .ok (.if_icmp .ne 16, 3) := by decide +kernel
theorem dX12_nextMates_24 : decode cX12_nextMates 24 = .ok (.aload_n 0, 1) := by decide +kernel
theorem dX12_nextMates_25 : decode cX12_nextMates 25 = .ok (.getfield 62, 3) := by decide +kernel
theorem dX12_nextMates_28 : decode cX12_nextMates 28 = .ok (.iload_n 1, 1) := by decide +kernel
theorem dX12_nextMates_29 : decode cX12_nextMates 29 = .ok (.iconst 0, 1) := by decide +kernel
theorem dX12_nextMates_30 : decode cX12_nextMates 30 = .ok (.iastore, 1) := by decide +kernel
theorem dX12_nextMates_31 : decode cX12_nextMates 31 = .ok (.iinc 1 (-1), 3) := by decide +kernel
theorem dX12_nextMates_34 : decode cX12_nextMates 34 = .ok (.goto (-27), 3) := by decide +kernel
theorem dX12_nextMates_37 : decode cX12_nextMates 37 = .ok (.iload_n 1, 1) := by decide +kernel
theorem dX12_nextMates_38 : decode cX12_nextMates 38 = .ok (.ifCond .ge 5, 3) := by decide +kernel
theorem dX12_nextMates_41 : decode cX12_nextMates 41 = .ok (.iconst 0, 1) := by decide +kernel
theorem dX12_nextMates_42 : decode cX12_nextMates 42 = .ok (.ireturn, 1) := by decide +kernel
theorem dX12_nextMates_43 : decode cX12_nextMates 43 = .ok (.aload_n 0, 1) := by decide +kernel
theorem dX12_nextMates_44 : decode cX12_nextMates 44 = .ok (.getfield 62, 3) := by decide +kernel
theorem dX12_nextMates_47 : decode cX12_nextMates 47 = .ok (.iload_n 1, 1) := by decide +kernel
theorem dX12_nextMates_48 : decode cX12_nextMates 48 = .ok (.dup2, 1) := by decide +kernel
theorem dX12_nextMates_49 : decode cX12_nextMates 49 = .ok (.iaload, 1) := by decide +kernel
theorem dX12_nextMates_50 : decode cX12_nextMates 50 = .ok (.iconst 1, 1) := by decide +kernel
theorem dX12_nextMates_51 : decode cX12_nextMates 51 = .ok (.iadd, 1) := by decide +kernel
theorem dX12_nextMates_52 : decode cX12_nextMates 52 = .ok (.iastore, 1) := by decide +kernel
theorem dX12_nextMates_53 : decode cX12_nextMates 53 = .ok (.iconst 1, 1) := by decide +kernel
theorem dX12_nextMates_54 : decode cX12_nextMates 54 = .ok (.ireturn, 1) := by decide +kernel
set_option maxRecDepth 20000 in
theorem ggX12_mostSteps_X12_stepsOf : GoodIn wsX12_mostSteps wsX12_stepsOf := goodIn_r _ [7, 8, 9, 10, 6, 11, 12, 13, 14, 15, 16, 17, 18, 19, 20, 21, 22, 23, 24, 25, 26, 27, 28, 29, 30, 31, 32, 33, 34, 35, 36, 37, 38, 39, 40, 41, 42, 43, 44, 45, 46, 47, 48, 49, 50, 51, 52, 53, 54, 55, 56, 57, 58, 59, 60, 61, 62, 63, 64] (by decide +kernel) (by decide +kernel)
set_option maxRecDepth 20000 in
theorem gX12_mostSteps_X12_stepsOf : GoodIn wsX12_mostSteps (wsV RX12 194 RX12 yX12_stepsOf wsX12_stepsOf) := goodIn_app (goodIn_of _ (by decide +kernel)) ggX12_mostSteps_X12_stepsOf
theorem dX12_mostSteps_0 : decode cX12_mostSteps 0 = .ok (.iconst 0, 1) := by decide +kernel
theorem dX12_mostSteps_1 : decode cX12_mostSteps 1 = .ok (.istore_n 2, 1) := by decide +kernel
theorem dX12_mostSteps_2 : decode cX12_mostSteps 2 = .ok (.iconst 0, 1) := by decide +kernel
theorem dX12_mostSteps_3 : decode cX12_mostSteps 3 = .ok (.istore_n 3, 1) := by decide +kernel
theorem dX12_mostSteps_4 : decode cX12_mostSteps 4 = .ok (.iload_n 3, 1) := by decide +kernel
theorem dX12_mostSteps_5 : decode cX12_mostSteps 5 = .ok (.aload_n 0, 1) := by decide +kernel
theorem dX12_mostSteps_6 : decode cX12_mostSteps 6 = .ok (.getfield 156, 3) := by decide +kernel
theorem dX12_mostSteps_9 : decode cX12_mostSteps 9 = .ok (.if_icmp .ge 38, 3) := by decide +kernel
theorem dX12_mostSteps_12 : decode cX12_mostSteps 12 = .ok (.aload_n 0, 1) := by decide +kernel
theorem dX12_mostSteps_13 : decode cX12_mostSteps 13 = .ok (.iload_n 3, 1) := by decide +kernel
theorem dX12_mostSteps_14 : decode cX12_mostSteps 14 = .ok (.iload_n 1, 1) := by decide +kernel
theorem dX12_mostSteps_15 : decode cX12_mostSteps 15 = .ok (.aload_n 0, 1) := by decide +kernel
theorem dX12_mostSteps_16 : decode cX12_mostSteps 16 = .ok (.getfield 62, 3) := by decide +kernel
theorem dX12_mostSteps_19 : decode cX12_mostSteps 19 = .ok (.iload_n 3, 1) := by decide +kernel
theorem dX12_mostSteps_20 : decode cX12_mostSteps 20 = .ok (.iaload, 1) := by decide +kernel
theorem dX12_mostSteps_21 : decode cX12_mostSteps 21 = .ok (.iconst 1, 1) := by decide +kernel
theorem dX12_mostSteps_22 : decode cX12_mostSteps 22 = .ok (.isub, 1) := by decide +kernel
theorem dX12_mostSteps_23 : decode cX12_mostSteps 23 = .ok (.invokevirtual 194, 3) := by decide +kernel
theorem dX12_mostSteps_26 : decode cX12_mostSteps 26 = .ok (.istore 4, 2) := by decide +kernel
theorem dX12_mostSteps_28 : decode cX12_mostSteps 28 = .ok (.iload 4, 2) := by decide +kernel
theorem dX12_mostSteps_30 : decode cX12_mostSteps 30 = .ok (.iload_n 2, 1) := by decide +kernel
theorem dX12_mostSteps_31 : decode cX12_mostSteps 31 = .ok (.if_icmp .le 8, 3) := by decide +kernel
theorem dX12_mostSteps_34 : decode cX12_mostSteps 34 = .ok (.iload 4, 2) := by decide +kernel
theorem dX12_mostSteps_36 : decode cX12_mostSteps 36 = .ok (.goto 4, 3) := by decide +kernel
theorem dX12_mostSteps_39 : decode cX12_mostSteps 39 = .ok (.iload_n 2, 1) := by decide +kernel
theorem dX12_mostSteps_40 : decode cX12_mostSteps 40 = .ok (.istore_n 2, 1) := by decide +kernel
theorem dX12_mostSteps_41 : decode cX12_mostSteps 41 = .ok (.iinc 3 1, 3) := by decide +kernel
theorem dX12_mostSteps_44 : decode cX12_mostSteps 44 = .ok (.goto (-40), 3) := by decide +kernel
theorem dX12_mostSteps_47 : decode cX12_mostSteps 47 = .ok (.iload_n 2, 1) := by decide +kernel
theorem dX12_mostSteps_48 : decode cX12_mostSteps 48 = .ok (.ireturn, 1) := by decide +kernel
theorem dX12_goTogether_0 : decode cX12_goTogether 0 = .ok (.iconst 0, 1) := by decide +kernel
theorem dX12_goTogether_1 : decode cX12_goTogether 1 = .ok (.istore_n 1, 1) := by decide +kernel
theorem dX12_goTogether_2 : decode cX12_goTogether 2 = .ok (.iconst 0, 1) := by decide +kernel
theorem dX12_goTogether_3 : decode cX12_goTogether 3 = .ok (.istore_n 2, 1) := by decide +kernel
theorem dX12_goTogether_4 : decode cX12_goTogether 4 = .ok (.iload_n 2, 1) := by decide +kernel
theorem dX12_goTogether_5 : decode cX12_goTogether 5 = .ok (.aload_n 0, 1) := by decide +kernel
theorem dX12_goTogether_6 : decode cX12_goTogether 6 = .ok (.getfield 156, 3) := by decide +kernel
theorem dX12_goTogether_9 : decode cX12_goTogether 9 = .ok (.if_icmp .ge 26, 3) := by decide +kernel
theorem dX12_goTogether_12 : decode cX12_goTogether 12 = .ok (.iload_n 1, 1) := by decide +kernel
theorem dX12_goTogether_13 : decode cX12_goTogether 13 = .ok (.aload_n 0, 1) := by decide +kernel
theorem dX12_goTogether_14 : decode cX12_goTogether 14 = .ok (.getfield 62, 3) := by decide +kernel
theorem dX12_goTogether_17 : decode cX12_goTogether 17 = .ok (.iload_n 2, 1) := by decide +kernel
theorem dX12_goTogether_18 : decode cX12_goTogether 18 = .ok (.iaload, 1) := by decide +kernel
theorem dX12_goTogether_19 : decode cX12_goTogether 19 = .ok (.ifCond .le 7, 3) := by decide +kernel
theorem dX12_goTogether_22 : decode cX12_goTogether 22 = .ok (.iconst 1, 1) := by decide +kernel
theorem dX12_goTogether_23 : decode cX12_goTogether 23 = .ok (.goto 4, 3) := by decide +kernel
theorem dX12_goTogether_26 : decode cX12_goTogether 26 = .ok (.iconst 0, 1) := by decide +kernel
theorem dX12_goTogether_27 : decode cX12_goTogether 27 = .ok (.iadd, 1) := by decide +kernel
theorem dX12_goTogether_28 : decode cX12_goTogether 28 = .ok (.istore_n 1, 1) := by decide +kernel
theorem dX12_goTogether_29 : decode cX12_goTogether 29 = .ok (.iinc 2 1, 3) := by decide +kernel
theorem dX12_goTogether_32 : decode cX12_goTogether 32 = .ok (.goto (-28), 3) := by decide +kernel
theorem dX12_goTogether_35 : decode cX12_goTogether 35 = .ok (.iload_n 1, 1) := by decide +kernel
theorem dX12_goTogether_36 : decode cX12_goTogether 36 = .ok (.ireturn, 1) := by decide +kernel
set_option maxRecDepth 20000 in
theorem ggX12_pairsNow_X12_arePairs : GoodIn wsX12_pairsNow wsX12_arePairs := goodIn_r _ [9, 4, 1, 34, 35, 36, 37, 38, 39, 40, 41, 42, 43, 44, 45, 46, 47, 48, 49, 50, 51, 52, 53, 54, 55, 56, 57, 58, 59, 60, 61, 62, 63, 64, 65, 66, 67, 68, 69, 70, 71, 72, 73, 74, 75, 76, 77, 78, 79, 80, 81, 82] (by decide +kernel) (by decide +kernel)
set_option maxRecDepth 20000 in
theorem gX12_pairsNow_X12_arePairs : GoodIn wsX12_pairsNow (wsV RX12 241 RX12 yX12_arePairs wsX12_arePairs) := goodIn_app (goodIn_of _ (by decide +kernel)) ggX12_pairsNow_X12_arePairs
set_option maxRecDepth 20000 in
theorem ggX12_pairsNow_X12_mostSteps : GoodIn wsX12_pairsNow wsX12_mostSteps := goodIn_r _ [13, 4, 1, 14, 15, 16, 8, 17, 18, 19, 20, 21, 22, 23, 24, 25, 34, 35, 36, 37, 38, 39, 40, 41, 42, 43, 44, 45, 46, 47, 48, 49, 50, 51, 52, 53, 54, 55, 56, 57, 58, 59, 60, 61, 62, 63, 64, 65, 66, 67, 68, 69, 70, 71, 72, 73, 74, 75, 76, 77, 78, 79, 80, 81, 82] (by decide +kernel) (by decide +kernel)
set_option maxRecDepth 20000 in
theorem gX12_pairsNow_X12_mostSteps : GoodIn wsX12_pairsNow (wsV RX12 244 RX12 yX12_mostSteps wsX12_mostSteps) := goodIn_app (goodIn_of _ (by decide +kernel)) ggX12_pairsNow_X12_mostSteps
set_option maxRecDepth 20000 in
theorem ggX12_pairsNow_X12_goTogether : GoodIn wsX12_pairsNow wsX12_goTogether := goodIn_r _ [29, 4, 1, 34, 35, 36, 37, 38, 39, 40, 41, 42, 43, 44, 45, 46, 47, 48, 49, 50, 51, 52, 53, 54, 55, 56, 57, 58, 59, 60, 61, 62, 63, 64, 65, 66, 67, 68, 69, 70, 71, 72, 73, 74, 75, 76, 77, 78, 79, 80, 81, 82] (by decide +kernel) (by decide +kernel)
set_option maxRecDepth 20000 in
theorem gX12_pairsNow_X12_goTogether : GoodIn wsX12_pairsNow (wsV RX12 247 RX12 yX12_goTogether wsX12_goTogether) := goodIn_app (goodIn_of _ (by decide +kernel)) ggX12_pairsNow_X12_goTogether
set_option maxRecDepth 20000 in
theorem ggX12_pairsNow_X12_nextMates : GoodIn wsX12_pairsNow wsX12_nextMates := goodIn_r _ [33, 4, 1, 34, 35, 36, 37, 38, 39, 40, 41, 42, 43, 44, 45, 46, 47, 48, 49, 50, 51, 52, 53, 54, 55, 56, 57, 58, 59, 60, 61, 62, 63, 64, 65, 66, 67, 68, 69, 70, 71, 72, 73, 74, 75, 76, 77, 78, 79, 80, 81, 82] (by decide +kernel) (by decide +kernel)
set_option maxRecDepth 20000 in
theorem gX12_pairsNow_X12_nextMates : GoodIn wsX12_pairsNow (wsV RX12 250 RX12 yX12_nextMates wsX12_nextMates) := goodIn_app (goodIn_of _ (by decide +kernel)) ggX12_pairsNow_X12_nextMates
theorem dX12_pairsNow_0 : decode cX12_pairsNow 0 = .ok (.iconst 0, 1) := by decide +kernel
theorem dX12_pairsNow_1 : decode cX12_pairsNow 1 = .ok (.istore_n 3, 1) := by decide +kernel
theorem dX12_pairsNow_2 : decode cX12_pairsNow 2 = .ok (.iload_n 3, 1) := by decide +kernel
theorem dX12_pairsNow_3 : decode cX12_pairsNow 3 = .ok (.iconst 5, 1) := by decide +kernel
theorem dX12_pairsNow_4 : decode cX12_pairsNow 4 = .ok (.if_icmp .ge 23, 3) := by decide +kernel
theorem dX12_pairsNow_7 : decode cX12_pairsNow 7 = .ok (.aload_n 0, 1) := by decide +kernel
theorem dX12_pairsNow_8 : decode cX12_pairsNow 8 = .ok (.getfield 62, 3) := by decide +kernel
theorem dX12_pairsNow_11 : decode cX12_pairsNow 11 = .ok (.iload_n 3, 1) := by decide +kernel
theorem dX12_pairsNow_12 : decode cX12_pairsNow 12 = .ok (.iconst 0, 1) := by decide +kernel
theorem dX12_pairsNow_13 : decode cX12_pairsNow 13 = .ok (.iastore, 1) := by decide +kernel
theorem dX12_pairsNow_14 : decode cX12_pairsNow 14 = .ok (.aload_n 0, 1) := by decide +kernel
theorem dX12_pairsNow_15 : decode cX12_pairsNow 15 = .ok (.getfield 65, 3) := by decide +kernel
theorem dX12_pairsNow_18 : decode cX12_pairsNow 18 = .ok (.iload_n 3, 1) := by decide +kernel
theorem dX12_pairsNow_19 : decode cX12_pairsNow 19 = .ok (.iconst 0, 1) := by decide +kernel
theorem dX12_pairsNow_20 : decode cX12_pairsNow 20 = .ok (.iastore, 1) := by decide +kernel
theorem dX12_pairsNow_21 : decode cX12_pairsNow 21 = .ok (.iinc 3 1, 3) := by decide +kernel
theorem dX12_pairsNow_24 : decode cX12_pairsNow 24 = .ok (.goto (-22), 3) := by decide +kernel
theorem dX12_pairsNow_27 : decode cX12_pairsNow 27 = .ok (.ldc 207, 2) := by decide +kernel
theorem dX12_pairsNow_29 : decode cX12_pairsNow 29 = .ok (.istore_n 3, 1) := by decide +kernel
theorem dX12_pairsNow_30 : decode cX12_pairsNow 30 = .ok (.ldc 207, 2) := by decide +kernel
theorem dX12_pairsNow_32 : decode cX12_pairsNow 32 = .ok (.istore 4, 2) := by decide +kernel
theorem dX12_pairsNow_34 : decode cX12_pairsNow 34 = .ok (.iconst 1, 1) := by decide +kernel
theorem dX12_pairsNow_35 : decode cX12_pairsNow 35 = .ok (.istore 5, 2) := by decide +kernel
theorem dX12_pairsNow_37 : decode cX12_pairsNow 37 = .ok (.iload 5, 2) := by decide +kernel
theorem dX12_pairsNow_39 : decode cX12_pairsNow 39 = .ok (.ifCond .eq 90, 3) := by decide +kernel
theorem dX12_pairsNow_42 : decode cX12_pairsNow 42 = .ok (.aload_n 0, 1) := by decide +kernel
theorem dX12_pairsNow_43 : decode cX12_pairsNow 43 = .ok (.invokevirtual 241, 3) := by decide +kernel
theorem dX12_pairsNow_46 : decode cX12_pairsNow 46 = .ok (.ifCond .eq 74, 3) := by decide +kernel
theorem dX12_pairsNow_49 : decode cX12_pairsNow 49 = .ok (.aload_n 0, 1) := by decide +kernel
theorem dX12_pairsNow_50 : decode cX12_pairsNow 50 = .ok (.iload_n 1, 1) := by decide +kernel
theorem dX12_pairsNow_51 : decode cX12_pairsNow 51 = .ok (.invokevirtual 244, 3) := by decide +kernel
theorem dX12_pairsNow_54 : decode cX12_pairsNow 54 = .ok (.istore 6, 2) := by decide +kernel
theorem dX12_pairsNow_56 : decode cX12_pairsNow 56 = .ok (.aload_n 0, 1) := by decide +kernel
theorem dX12_pairsNow_57 : decode cX12_pairsNow 57 = .ok (.invokevirtual 247, 3) := by decide +kernel
theorem dX12_pairsNow_60 : decode cX12_pairsNow 60 = .ok (.istore 7, 2) := by decide +kernel
theorem dX12_pairsNow_62 : decode cX12_pairsNow 62 = .ok (.iload 6, 2) := by decide +kernel
theorem dX12_pairsNow_64 : decode cX12_pairsNow 64 = .ok (.iload_n 3, 1) := by decide +kernel
theorem dX12_pairsNow_65 : decode cX12_pairsNow 65 = .ok (.if_icmp .lt 16, 3) := by decide +kernel
theorem dX12_pairsNow_68 : decode cX12_pairsNow 68 = .ok (.iload 6, 2) := by decide +kernel
theorem dX12_pairsNow_70 : decode cX12_pairsNow 70 = .ok (.iload_n 3, 1) := by decide +kernel
theorem dX12_pairsNow_71 : decode cX12_pairsNow 71 = .ok (.if_icmp .ne 49, 3) := by decide +kernel
theorem dX12_pairsNow_74 : decode cX12_pairsNow 74 = .ok (.iload 7, 2) := by decide +kernel
theorem dX12_pairsNow_76 : decode cX12_pairsNow 76 = .ok (.iload 4, 2) := by decide +kernel
theorem dX12_pairsNow_78 : decode cX12_pairsNow 78 = .ok (.if_icmp .ge 42, 3) := by decide +kernel
theorem dX12_pairsNow_81 : decode cX12_pairsNow 81 = .ok (.iload 6, 2) := by decide +kernel
theorem dX12_pairsNow_83 : decode cX12_pairsNow 83 = .ok (.istore_n 3, 1) := by decide +kernel
theorem dX12_pairsNow_84 : decode cX12_pairsNow 84 = .ok (.iload 7, 2) := by decide +kernel
theorem dX12_pairsNow_86 : decode cX12_pairsNow 86 = .ok (.istore 4, 2) := by decide +kernel
theorem dX12_pairsNow_88 : decode cX12_pairsNow 88 = .ok (.iconst 0, 1) := by decide +kernel
theorem dX12_pairsNow_89 : decode cX12_pairsNow 89 = .ok (.istore 8, 2) := by decide +kernel
theorem dX12_pairsNow_91 : decode cX12_pairsNow 91 = .ok (.iload 8, 2) := by decide +kernel
theorem dX12_pairsNow_93 : decode cX12_pairsNow 93 = .ok (.aload_n 0, 1) := by decide +kernel
theorem dX12_pairsNow_94 : decode cX12_pairsNow 94 = .ok (.getfield 156, 3) := by decide +kernel
theorem dX12_pairsNow_97 : decode cX12_pairsNow 97 = .ok (.if_icmp .ge 23, 3) := by decide +kernel
theorem dX12_pairsNow_100 : decode cX12_pairsNow 100 = .ok (.aload_n 0, 1) := by decide +kernel
theorem dX12_pairsNow_101 : decode cX12_pairsNow 101 = .ok (.getfield 65, 3) := by decide +kernel
theorem dX12_pairsNow_104 : decode cX12_pairsNow 104 = .ok (.iload 8, 2) := by decide +kernel
theorem dX12_pairsNow_106 : decode cX12_pairsNow 106 = .ok (.aload_n 0, 1) := by decide +kernel
theorem dX12_pairsNow_107 : decode cX12_pairsNow 107 = .ok (.getfield 62, 3) := by decide +kernel
theorem dX12_pairsNow_110 : decode cX12_pairsNow 110 = .ok (.iload 8, 2) := by decide +kernel
theorem dX12_pairsNow_112 : decode cX12_pairsNow 112 = .ok (.iaload, 1) := by decide +kernel
theorem dX12_pairsNow_113 : decode cX12_pairsNow 113 = .ok (.iastore, 1) := by decide +kernel
theorem dX12_pairsNow_114 : decode cX12_pairsNow 114 = .ok (.iinc 8 1, 3) := by decide +kernel
theorem dX12_pairsNow_117 : decode cX12_pairsNow 117 = .ok (.goto (-26), 3) := by decide +kernel
theorem dX12_pairsNow_120 : decode cX12_pairsNow 120 = .ok (.aload_n 0, 1) := by decide +kernel
theorem dX12_pairsNow_121 : decode cX12_pairsNow 121 = .ok (.invokevirtual 250, 3) := by decide +kernel
theorem dX12_pairsNow_124 : decode cX12_pairsNow 124 = .ok (.istore 5, 2) := by decide +kernel
theorem dX12_pairsNow_126 : decode cX12_pairsNow 126 = .ok (.goto (-89), 3) := by decide +kernel
theorem dX12_pairsNow_129 : decode cX12_pairsNow 129 = .ok (.iload_n 2, 1) := by decide +kernel
theorem dX12_pairsNow_130 : decode cX12_pairsNow 130 = .ok (.ifCond .ne 7, 3) := by decide +kernel
theorem dX12_pairsNow_133 : decode cX12_pairsNow 133 = .ok (.iload_n 3, 1) := by decide +kernel
theorem dX12_pairsNow_134 : decode cX12_pairsNow 134 = .ok (.goto 14, 3) := by decide +kernel
theorem dX12_pairsNow_137 : decode cX12_pairsNow 137 = .ok (.aload_n 0, 1) := by decide +kernel
theorem dX12_pairsNow_138 : decode cX12_pairsNow 138 = .ok (.getfield 65, 3) := by decide +kernel
theorem dX12_pairsNow_141 : decode cX12_pairsNow 141 = .ok (.iload_n 2, 1) := by decide +kernel
theorem dX12_pairsNow_142 : decode cX12_pairsNow 142 = .ok (.bipush 10, 2) := by decide +kernel
theorem dX12_pairsNow_144 : decode cX12_pairsNow 144 = .ok (.isub, 1) := by decide +kernel
theorem dX12_pairsNow_145 : decode cX12_pairsNow 145 = .ok (.iaload, 1) := by decide +kernel
theorem dX12_pairsNow_146 : decode cX12_pairsNow 146 = .ok (.iconst 1, 1) := by decide +kernel
theorem dX12_pairsNow_147 : decode cX12_pairsNow 147 = .ok (.isub, 1) := by decide +kernel
theorem dX12_pairsNow_148 : decode cX12_pairsNow 148 = .ok (.ireturn, 1) := by decide +kernel
set_option maxRecDepth 20000 in
theorem ggX12_pairs_X12_isPassage : GoodIn wsX12_pairs wsX12_isPassage := goodIn_r _ [5, 6, 7, 8, 4, 9, 46, 47, 48, 49, 50, 51, 52, 53, 54, 55, 56, 57, 58, 59, 60, 61, 62, 63, 64, 65, 66, 67, 68, 69, 70, 71, 72, 73, 74, 75, 76, 77, 78, 79, 80, 81, 82, 83, 84, 85, 86, 87, 88, 89, 90, 91, 92, 93, 94] (by decide +kernel) (by decide +kernel)
set_option maxRecDepth 20000 in
theorem gX12_pairs_X12_isPassage : GoodIn wsX12_pairs (wsV RX12 184 RX12 yX12_isPassage wsX12_isPassage) := goodIn_app (goodIn_of _ (by decide +kernel)) ggX12_pairs_X12_isPassage
set_option maxRecDepth 20000 in
theorem ggX12_pairs_X12_within : GoodIn wsX12_pairs wsX12_within := goodIn_r _ [9] (by decide +kernel) (by decide +kernel)
set_option maxRecDepth 20000 in
theorem gX12_pairs_X12_within : GoodIn wsX12_pairs (va_wsS RX12 108 yX12_within wsX12_within) := goodIn_app (goodIn_of _ (by decide +kernel)) ggX12_pairs_X12_within
set_option maxRecDepth 20000 in
theorem ggX12_pairs_X12_pairsNow : GoodIn wsX12_pairs wsX12_pairsNow := goodIn_r _ [13, 14, 15, 16, 17, 18, 19, 20, 4, 21, 22, 23, 24, 25, 26, 27, 28, 29, 30, 31, 32, 33, 34, 35, 36, 37, 38, 39, 40, 41, 42, 43, 44, 45, 46, 47, 48, 49, 50, 51, 52, 53, 54, 55, 56, 57, 58, 59, 60, 61, 62, 63, 64, 65, 66, 67, 68, 69, 70, 71, 72, 73, 74, 75, 76, 77, 78, 79, 80, 81, 82, 83, 84, 85, 86, 87, 88, 89, 90, 91, 92, 93, 94] (by decide +kernel) (by decide +kernel)
set_option maxRecDepth 20000 in
theorem gX12_pairs_X12_pairsNow : GoodIn wsX12_pairs (wsV RX12 253 RX12 yX12_pairsNow wsX12_pairsNow) := goodIn_app (goodIn_of _ (by decide +kernel)) ggX12_pairs_X12_pairsNow
theorem dX12_pairs_0 : decode cX12_pairs 0 = .ok (.aload_n 0, 1) := by decide +kernel
theorem dX12_pairs_1 : decode cX12_pairs 1 = .ok (.iload_n 1, 1) := by decide +kernel
theorem dX12_pairs_2 : decode cX12_pairs 2 = .ok (.invokevirtual 184, 3) := by decide +kernel
theorem dX12_pairs_5 : decode cX12_pairs 5 = .ok (.ifCond .ne 6, 3) := by decide +kernel
theorem dX12_pairs_8 : decode cX12_pairs 8 = .ok (.bipush (-101), 2) := by decide +kernel
theorem dX12_pairs_10 : decode cX12_pairs 10 = .ok (.ireturn, 1) := by decide +kernel
theorem dX12_pairs_11 : decode cX12_pairs 11 = .ok (.iload_n 2, 1) := by decide +kernel
theorem dX12_pairs_12 : decode cX12_pairs 12 = .ok (.ifCond .eq 14, 3) := by decide +kernel
theorem dX12_pairs_15 : decode cX12_pairs 15 = .ok (.iload_n 2, 1) := by decide +kernel
theorem dX12_pairs_16 : decode cX12_pairs 16 = .ok (.bipush 10, 2) := by decide +kernel
theorem dX12_pairs_18 : decode cX12_pairs 18 = .ok (.bipush 14, 2) := by decide +kernel
theorem dX12_pairs_20 : decode cX12_pairs 20 = .ok (.invokestatic 108, 3) := by decide +kernel
theorem dX12_pairs_23 : decode cX12_pairs 23 = .ok (.ifCond .eq 12, 3) := by decide +kernel
theorem dX12_pairs_26 : decode cX12_pairs 26 = .ok (.aload_n 0, 1) := by decide +kernel
theorem dX12_pairs_27 : decode cX12_pairs 27 = .ok (.iload_n 1, 1) := by decide +kernel
theorem dX12_pairs_28 : decode cX12_pairs 28 = .ok (.iload_n 2, 1) := by decide +kernel
theorem dX12_pairs_29 : decode cX12_pairs 29 = .ok (.invokevirtual 253, 3) := by decide +kernel
theorem dX12_pairs_32 : decode cX12_pairs 32 = .ok (.goto 5, 3) := by decide +kernel
theorem dX12_pairs_35 : decode cX12_pairs 35 = .ok (.bipush (-102), 2) := by decide +kernel
theorem dX12_pairs_37 : decode cX12_pairs 37 = .ok (.ireturn, 1) := by decide +kernel
set_option maxRecDepth 20000 in
theorem ggX12_ending_X12_endsAt : GoodIn wsX12_ending wsX12_endsAt := goodIn_r _ [6, 7, 8, 9, 10, 11, 12, 13, 14, 15, 16, 17, 18, 19, 20, 21, 22, 23, 24, 25, 26, 27, 28, 29, 30, 31, 32, 33, 34, 35, 36, 37, 38, 39, 40, 41, 42, 43, 44, 45, 46, 47, 48, 49, 50, 51, 52, 53, 54, 55, 56, 57] (by decide +kernel) (by decide +kernel)
set_option maxRecDepth 20000 in
theorem gX12_ending_X12_endsAt : GoodIn wsX12_ending (wsV RX12 198 RX12 yX12_endsAt wsX12_endsAt) := goodIn_app (goodIn_of _ (by decide +kernel)) ggX12_ending_X12_endsAt
theorem dX12_ending_0 : decode cX12_ending 0 = .ok (.iconst 0, 1) := by decide +kernel
theorem dX12_ending_1 : decode cX12_ending 1 = .ok (.istore_n 2, 1) := by decide +kernel
theorem dX12_ending_2 : decode cX12_ending 2 = .ok (.iconst 0, 1) := by decide +kernel
theorem dX12_ending_3 : decode cX12_ending 3 = .ok (.istore_n 3, 1) := by decide +kernel
theorem dX12_ending_4 : decode cX12_ending 4 = .ok (.iload_n 3, 1) := by decide +kernel
theorem dX12_ending_5 : decode cX12_ending 5 = .ok (.aload_n 0, 1) := by decide +kernel
theorem dX12_ending_6 : decode cX12_ending 6 = .ok (.getfield 153, 3) := by decide +kernel
theorem dX12_ending_9 : decode cX12_ending 9 = .ok (.if_icmp .ge 26, 3) := by decide +kernel
theorem dX12_ending_12 : decode cX12_ending 12 = .ok (.iload_n 2, 1) := by decide +kernel
theorem dX12_ending_13 : decode cX12_ending 13 = .ok (.aload_n 0, 1) := by decide +kernel
theorem dX12_ending_14 : decode cX12_ending 14 = .ok (.iload_n 3, 1) := by decide +kernel
theorem dX12_ending_15 : decode cX12_ending 15 = .ok (.iload_n 1, 1) := by decide +kernel
theorem dX12_ending_16 : decode cX12_ending 16 = .ok (.invokevirtual 198, 3) := by decide +kernel
theorem dX12_ending_19 : decode cX12_ending 19 = .ok (.ifCond .eq 7, 3) := by decide +kernel
theorem dX12_ending_22 : decode cX12_ending 22 = .ok (.iconst 1, 1) := by decide +kernel
theorem dX12_ending_23 : decode cX12_ending 23 = .ok (.goto 4, 3) := by decide +kernel
theorem dX12_ending_26 : decode cX12_ending 26 = .ok (.iconst 0, 1) := by decide +kernel
theorem dX12_ending_27 : decode cX12_ending 27 = .ok (.iadd, 1) := by decide +kernel
theorem dX12_ending_28 : decode cX12_ending 28 = .ok (.istore_n 2, 1) := by decide +kernel
theorem dX12_ending_29 : decode cX12_ending 29 = .ok (.iinc 3 1, 3) := by decide +kernel
theorem dX12_ending_32 : decode cX12_ending 32 = .ok (.goto (-28), 3) := by decide +kernel
theorem dX12_ending_35 : decode cX12_ending 35 = .ok (.iload_n 2, 1) := by decide +kernel
theorem dX12_ending_36 : decode cX12_ending 36 = .ok (.ireturn, 1) := by decide +kernel
set_option maxRecDepth 20000 in
theorem ggX12_turn_X12_ending : GoodIn wsX12_turn wsX12_ending := goodIn_r _ [10, 5, 11, 12, 13, 9, 14, 15, 16, 21, 22, 23, 24, 25, 26, 27, 28, 29, 30, 31, 32, 33, 34, 35, 36, 37, 38, 39, 40, 41, 42, 43, 44, 45, 46, 47, 48, 49, 50, 51, 52, 53, 54, 55, 56, 57, 58, 59, 60, 61, 62, 63, 64, 65, 66, 67, 68, 69] (by decide +kernel) (by decide +kernel)
set_option maxRecDepth 20000 in
theorem gX12_turn_X12_ending : GoodIn wsX12_turn (wsV RX12 256 RX12 yX12_ending wsX12_ending) := goodIn_app (goodIn_of _ (by decide +kernel)) ggX12_turn_X12_ending
set_option maxRecDepth 20000 in
theorem ggX12_turn_X12_endsAt : GoodIn wsX12_turn wsX12_endsAt := goodIn_r _ [14, 15, 16, 21, 22, 23, 24, 25, 26, 27, 28, 29, 30, 31, 32, 33, 34, 35, 36, 37, 38, 39, 40, 41, 42, 43, 44, 45, 46, 47, 48, 49, 50, 51, 52, 53, 54, 55, 56, 57, 58, 59, 60, 61, 62, 63, 64, 65, 66, 67, 68, 69] (by decide +kernel) (by decide +kernel)
set_option maxRecDepth 20000 in
theorem gX12_turn_X12_endsAt : GoodIn wsX12_turn (wsV RX12 198 RX12 yX12_endsAt wsX12_endsAt) := goodIn_app (goodIn_of _ (by decide +kernel)) ggX12_turn_X12_endsAt
set_option maxRecDepth 20000 in
theorem ggX12_turn_X12_beyond : GoodIn wsX12_turn wsX12_beyond := goodIn_r _ [20, 15, 16, 21, 22, 23, 24, 25, 26, 27, 28, 29, 30, 31, 32, 33, 34, 35, 36, 37, 38, 39, 40, 41, 42, 43, 44, 45, 46, 47, 48, 49, 50, 51, 52, 53, 54, 55, 56, 57, 58, 59, 60, 61, 62, 63, 64, 65, 66, 67, 68, 69] (by decide +kernel) (by decide +kernel)
set_option maxRecDepth 20000 in
theorem gX12_turn_X12_beyond : GoodIn wsX12_turn (wsV RX12 204 RX12 yX12_beyond wsX12_beyond) := goodIn_app (goodIn_of _ (by decide +kernel)) ggX12_turn_X12_beyond
theorem dX12_turn_0 : decode cX12_turn 0 = .ok (.iconst 0, 1) := by decide +kernel
theorem dX12_turn_1 : decode cX12_turn 1 = .ok (.istore_n 2, 1) := by decide +kernel
theorem dX12_turn_2 : decode cX12_turn 2 = .ok (.iload_n 2, 1) := by decide +kernel
theorem dX12_turn_3 : decode cX12_turn 3 = .ok (.aload_n 0, 1) := by decide +kernel
theorem dX12_turn_4 : decode cX12_turn 4 = .ok (.getfield 150, 3) := by decide +kernel
theorem dX12_turn_7 : decode cX12_turn 7 = .ok (.if_icmp .ge 16, 3) := by decide +kernel
theorem dX12_turn_10 : decode cX12_turn 10 = .ok (.aload_n 0, 1) := by decide +kernel
theorem dX12_turn_11 : decode cX12_turn 11 = .ok (.getfield 72, 3) := by decide +kernel
theorem dX12_turn_14 : decode cX12_turn 14 = .ok (.iload_n 2, 1) := by decide +kernel
theorem dX12_turn_15 : decode cX12_turn 15 = .ok (.lconst 0, 1) := by decide +kernel
theorem dX12_turn_16 : decode cX12_turn 16 = .ok (.lastore, 1) := by decide +kernel
theorem dX12_turn_17 : decode cX12_turn 17 = .ok (.iinc 2 1, 3) := by decide +kernel
theorem dX12_turn_20 : decode cX12_turn 20 = .ok (.goto (-18), 3) := by decide +kernel
theorem dX12_turn_23 : decode cX12_turn 23 = .ok (.iconst 0, 1) := by decide +kernel
theorem dX12_turn_24 : decode cX12_turn 24 = .ok (.istore_n 2, 1) := by decide +kernel
theorem dX12_turn_25 : decode cX12_turn 25 = .ok (.iload_n 2, 1) := by decide +kernel
theorem dX12_turn_26 : decode cX12_turn 26 = .ok (.aload_n 0, 1) := by decide +kernel
theorem dX12_turn_27 : decode cX12_turn 27 = .ok (.getfield 150, 3) := by decide +kernel
theorem dX12_turn_30 : decode cX12_turn 30 = .ok (.if_icmp .ge 102, 3) := by decide +kernel
theorem dX12_turn_33 : decode cX12_turn 33 = .ok (.aload_n 0, 1) := by decide +kernel
theorem dX12_turn_34 : decode cX12_turn 34 = .ok (.iload_n 2, 1) := by decide +kernel
theorem dX12_turn_35 : decode cX12_turn 35 = .ok (.invokevirtual 256, 3) := by decide +kernel
theorem dX12_turn_38 : decode cX12_turn 38 = .ok (.istore_n 3, 1) := by decide +kernel
theorem dX12_turn_39 : decode cX12_turn 39 = .ok (.aload_n 0, 1) := by decide +kernel
theorem dX12_turn_40 : decode cX12_turn 40 = .ok (.getfield 72, 3) := by decide +kernel
theorem dX12_turn_43 : decode cX12_turn 43 = .ok (.iload_n 2, 1) := by decide +kernel
theorem dX12_turn_44 : decode cX12_turn 44 = .ok (.dup2, 1) := by decide +kernel
theorem dX12_turn_45 : decode cX12_turn 45 = .ok (.laload, 1) := by decide +kernel
theorem dX12_turn_46 : decode cX12_turn 46 = .ok (.iload_n 3, 1) := by decide +kernel
theorem dX12_turn_47 : decode cX12_turn 47 = .ok (.ifCond .ne 18, 3) := by decide +kernel
theorem dX12_turn_50 : decode cX12_turn 50 = .ok (.aload_n 0, 1) := by decide +kernel
theorem dX12_turn_51 : decode cX12_turn 51 = .ok (.getfield 68, 3) := by decide +kernel
theorem dX12_turn_54 : decode cX12_turn 54 = .ok (.iload_n 1, 1) := by decide +kernel
theorem dX12_turn_55 : decode cX12_turn 55 = .ok (.iload_n 2, 1) := by decide +kernel
theorem dX12_turn_56 : decode cX12_turn 56 = .ok (.iadd, 1) := by decide +kernel
theorem dX12_turn_57 : decode cX12_turn 57 = .ok (.laload, 1) := by decide +kernel
theorem dX12_turn_58 : decode cX12_turn 58 = .ok (.ldc2_w 259, 3) := by decide +kernel
theorem dX12_turn_61 : decode cX12_turn 61 = .ok (.lmul, 1) := by decide +kernel
theorem dX12_turn_62 : decode cX12_turn 62 = .ok (.goto 4, 3) := by decide +kernel
theorem dX12_turn_65 : decode cX12_turn 65 = .ok (.lconst 0, 1) := by decide +kernel
theorem dX12_turn_66 : decode cX12_turn 66 = .ok (.ladd, 1) := by decide +kernel
theorem dX12_turn_67 : decode cX12_turn 67 = .ok (.lastore, 1) := by decide +kernel
theorem dX12_turn_68 : decode cX12_turn 68 = .ok (.iconst 0, 1) := by decide +kernel
theorem dX12_turn_69 : decode cX12_turn 69 = .ok (.istore 4, 2) := by decide +kernel
theorem dX12_turn_71 : decode cX12_turn 71 = .ok (.iload 4, 2) := by decide +kernel
theorem dX12_turn_73 : decode cX12_turn 73 = .ok (.aload_n 0, 1) := by decide +kernel
theorem dX12_turn_74 : decode cX12_turn 74 = .ok (.getfield 153, 3) := by decide +kernel
theorem dX12_turn_77 : decode cX12_turn 77 = .ok (.if_icmp .ge 49, 3) := by decide +kernel
theorem dX12_turn_80 : decode cX12_turn 80 = .ok (.aload_n 0, 1) := by decide +kernel
theorem dX12_turn_81 : decode cX12_turn 81 = .ok (.iload 4, 2) := by decide +kernel
theorem dX12_turn_83 : decode cX12_turn 83 = .ok (.iload_n 2, 1) := by decide +kernel
theorem dX12_turn_84 : decode cX12_turn 84 = .ok (.invokevirtual 198, 3) := by decide +kernel
theorem dX12_turn_87 : decode cX12_turn 87 = .ok (.ifCond .eq 33, 3) := by decide +kernel
theorem dX12_turn_90 : decode cX12_turn 90 = .ok (.aload_n 0, 1) := by decide +kernel
theorem dX12_turn_91 : decode cX12_turn 91 = .ok (.getfield 72, 3) := by decide +kernel
theorem dX12_turn_94 : decode cX12_turn 94 = .ok (.aload_n 0, 1) := by decide +kernel
theorem dX12_turn_95 : decode cX12_turn 95 = .ok (.iload 4, 2) := by decide +kernel
theorem dX12_turn_97 : decode cX12_turn 97 = .ok (.iload_n 2, 1) := by decide +kernel
theorem dX12_turn_98 : decode cX12_turn 98 = .ok (.invokevirtual 204, 3) := by decide +kernel
theorem dX12_turn_101 : decode cX12_turn 101 = .ok (.dup2, 1) := by decide +kernel
theorem dX12_turn_102 : decode cX12_turn 102 = .ok (.laload, 1) := by decide +kernel
theorem dX12_turn_103 : decode cX12_turn 103 = .ok (.aload_n 0, 1) := by decide +kernel
theorem dX12_turn_104 : decode cX12_turn 104 = .ok (.getfield 68, 3) := by decide +kernel
theorem dX12_turn_107 : decode cX12_turn 107 = .ok (.iload_n 1, 1) := by decide +kernel
theorem dX12_turn_108 : decode cX12_turn 108 = .ok (.iload_n 2, 1) := by decide +kernel
theorem dX12_turn_109 : decode cX12_turn 109 = .ok (.iadd, 1) := by decide +kernel
theorem dX12_turn_110 : decode cX12_turn 110 = .ok (.laload, 1) := by decide +kernel
theorem dX12_turn_111 : decode cX12_turn 111 = .ok (.sipush 420, 3) := by decide +kernel
theorem dX12_turn_114 : decode cX12_turn 114 = .ok (.iload_n 3, 1) := by decide +kernel
theorem dX12_turn_115 : decode cX12_turn 115 = .ok (.idiv, 1) := by decide +kernel
theorem dX12_turn_116 : decode cX12_turn 116 = .ok (.i2l, 1) := by decide +kernel
theorem dX12_turn_117 : decode cX12_turn 117 = .ok (.lmul, 1) := by decide +kernel
theorem dX12_turn_118 : decode cX12_turn 118 = .ok (.ladd, 1) := by decide +kernel
theorem dX12_turn_119 : decode cX12_turn 119 = .ok (.lastore, 1) := by decide +kernel
theorem dX12_turn_120 : decode cX12_turn 120 = .ok (.iinc 4 1, 3) := by decide +kernel
theorem dX12_turn_123 : decode cX12_turn 123 = .ok (.goto (-52), 3) := by decide +kernel
theorem dX12_turn_126 : decode cX12_turn 126 = .ok (.iinc 2 1, 3) := by decide +kernel
theorem dX12_turn_129 : decode cX12_turn 129 = .ok (.goto (-104), 3) := by decide +kernel
theorem dX12_turn_132 : decode cX12_turn 132 = .ok (.iconst 0, 1) := by decide +kernel
theorem dX12_turn_133 : decode cX12_turn 133 = .ok (.istore_n 2, 1) := by decide +kernel
theorem dX12_turn_134 : decode cX12_turn 134 = .ok (.iload_n 2, 1) := by decide +kernel
theorem dX12_turn_135 : decode cX12_turn 135 = .ok (.aload_n 0, 1) := by decide +kernel
theorem dX12_turn_136 : decode cX12_turn 136 = .ok (.getfield 150, 3) := by decide +kernel
theorem dX12_turn_139 : decode cX12_turn 139 = .ok (.if_icmp .ge 23, 3) := by decide +kernel
theorem dX12_turn_142 : decode cX12_turn 142 = .ok (.aload_n 0, 1) := by decide +kernel
theorem dX12_turn_143 : decode cX12_turn 143 = .ok (.getfield 68, 3) := by decide +kernel
theorem dX12_turn_146 : decode cX12_turn 146 = .ok (.iload_n 1, 1) := by decide +kernel
theorem dX12_turn_147 : decode cX12_turn 147 = .ok (.iload_n 2, 1) := by decide +kernel
theorem dX12_turn_148 : decode cX12_turn 148 = .ok (.iadd, 1) := by decide +kernel
theorem dX12_turn_149 : decode cX12_turn 149 = .ok (.aload_n 0, 1) := by decide +kernel
theorem dX12_turn_150 : decode cX12_turn 150 = .ok (.getfield 72, 3) := by decide +kernel
theorem dX12_turn_153 : decode cX12_turn 153 = .ok (.iload_n 2, 1) := by decide +kernel
theorem dX12_turn_154 : decode cX12_turn 154 = .ok (.laload, 1) := by decide +kernel
theorem dX12_turn_155 : decode cX12_turn 155 = .ok (.lastore, 1) := by decide +kernel
theorem dX12_turn_156 : decode cX12_turn 156 = .ok (.iinc 2 1, 3) := by decide +kernel
theorem dX12_turn_159 : decode cX12_turn 159 = .ok (.goto (-25), 3) := by decide +kernel
theorem dX12_turn_162 : decode cX12_turn 162 = .ok (.return_, 1) := by decide +kernel
set_option maxRecDepth 20000 in
theorem ggX12_meetNow_X12_turn : GoodIn wsX12_meetNow wsX12_turn := goodIn_r _ [9, 4, 10, 1, 11, 12, 13, 14, 15, 8, 16, 17, 18, 19, 20, 21, 22, 23, 24, 25, 26, 30, 31, 32, 33, 34, 35, 36, 37, 38, 39, 40, 41, 42, 43, 44, 45, 46, 47, 48, 49, 50, 51, 52, 53, 54, 55, 56, 57, 58, 59, 60, 61, 62, 63, 64, 65, 66, 67, 68, 69, 70, 71, 72, 73, 74, 75, 76, 77, 78] (by decide +kernel) (by decide +kernel)
set_option maxRecDepth 20000 in
theorem gX12_meetNow_X12_turn : GoodIn wsX12_meetNow (wsV RX12 261 RX12 yX12_turn wsX12_turn) := goodIn_app (goodIn_of _ (by decide +kernel)) ggX12_meetNow_X12_turn
set_option maxRecDepth 20000 in
theorem ggX12_meetNow_X12_divisor : GoodIn wsX12_meetNow wsX12_divisor := goodIn_r _ [29] (by decide +kernel) (by decide +kernel)
set_option maxRecDepth 20000 in
theorem gX12_meetNow_X12_divisor : GoodIn wsX12_meetNow (va_wsS RX12 267 yX12_divisor wsX12_divisor) := goodIn_app (goodIn_of _ (by decide +kernel)) ggX12_meetNow_X12_divisor
theorem dX12_meetNow_0 : decode cX12_meetNow 0 = .ok (.iconst 0, 1) := by decide +kernel
theorem dX12_meetNow_1 : decode cX12_meetNow 1 = .ok (.istore 5, 2) := by decide +kernel
theorem dX12_meetNow_3 : decode cX12_meetNow 3 = .ok (.iload 5, 2) := by decide +kernel
theorem dX12_meetNow_5 : decode cX12_meetNow 5 = .ok (.iconst 5, 1) := by decide +kernel
theorem dX12_meetNow_6 : decode cX12_meetNow 6 = .ok (.if_icmp .ge 57, 3) := by decide +kernel
theorem dX12_meetNow_9 : decode cX12_meetNow 9 = .ok (.aload_n 0, 1) := by decide +kernel
theorem dX12_meetNow_10 : decode cX12_meetNow 10 = .ok (.getfield 68, 3) := by decide +kernel
theorem dX12_meetNow_13 : decode cX12_meetNow 13 = .ok (.iload 5, 2) := by decide +kernel
theorem dX12_meetNow_15 : decode cX12_meetNow 15 = .ok (.aload_n 0, 1) := by decide +kernel
theorem dX12_meetNow_16 : decode cX12_meetNow 16 = .ok (.getfield 28, 3) := by decide +kernel
theorem dX12_meetNow_19 : decode cX12_meetNow 19 = .ok (.iload_n 1, 1) := by decide +kernel
theorem dX12_meetNow_20 : decode cX12_meetNow 20 = .ok (.iaload, 1) := by decide +kernel
theorem dX12_meetNow_21 : decode cX12_meetNow 21 = .ok (.iload 5, 2) := by decide +kernel
theorem dX12_meetNow_23 : decode cX12_meetNow 23 = .ok (.if_icmp .ne 7, 3) := by decide +kernel
theorem dX12_meetNow_26 : decode cX12_meetNow 26 = .ok (.lconst 1, 1) := by decide +kernel
theorem dX12_meetNow_27 : decode cX12_meetNow 27 = .ok (.goto 4, 3) := by decide +kernel
theorem dX12_meetNow_30 : decode cX12_meetNow 30 = .ok (.lconst 0, 1) := by decide +kernel
theorem dX12_meetNow_31 : decode cX12_meetNow 31 = .ok (.lastore, 1) := by decide +kernel
theorem dX12_meetNow_32 : decode cX12_meetNow 32 = .ok (.aload_n 0, 1) := by decide +kernel
theorem dX12_meetNow_33 : decode cX12_meetNow 33 = .ok (.getfield 68, 3) := by decide +kernel
theorem dX12_meetNow_36 : decode cX12_meetNow 36 = .ok (.iconst 5, 1) := by decide +kernel
theorem dX12_meetNow_37 : decode cX12_meetNow 37 = .ok (.iload 5, 2) := by decide +kernel
theorem dX12_meetNow_39 : decode cX12_meetNow 39 = .ok (.iadd, 1) := by decide +kernel
theorem dX12_meetNow_40 : decode cX12_meetNow 40 = .ok (.aload_n 0, 1) := by decide +kernel
theorem dX12_meetNow_41 : decode cX12_meetNow 41 = .ok (.getfield 28, 3) := by decide +kernel
theorem dX12_meetNow_44 : decode cX12_meetNow 44 = .ok (.iload_n 2, 1) := by decide +kernel
theorem dX12_meetNow_45 : decode cX12_meetNow 45 = .ok (.iaload, 1) := by decide +kernel
theorem dX12_meetNow_46 : decode cX12_meetNow 46 = .ok (.iload 5, 2) := by decide +kernel
theorem dX12_meetNow_48 : decode cX12_meetNow 48 = .ok (.if_icmp .ne 7, 3) := by decide +kernel
theorem dX12_meetNow_51 : decode cX12_meetNow 51 = .ok (.lconst 1, 1) := by decide +kernel
theorem dX12_meetNow_52 : decode cX12_meetNow 52 = .ok (.goto 4, 3) := by decide +kernel
theorem dX12_meetNow_55 : decode cX12_meetNow 55 = .ok (.lconst 0, 1) := by decide +kernel
theorem dX12_meetNow_56 : decode cX12_meetNow 56 = .ok (.lastore, 1) := by decide +kernel
theorem dX12_meetNow_57 : decode cX12_meetNow 57 = .ok (.iinc 5 1, 3) := by decide +kernel
theorem dX12_meetNow_60 : decode cX12_meetNow 60 = .ok (.goto (-57), 3) := by decide +kernel
theorem dX12_meetNow_63 : decode cX12_meetNow 63 = .ok (.lconst 1, 1) := by decide +kernel
theorem dX12_meetNow_64 : decode cX12_meetNow 64 = .ok (.lstore 5, 2) := by decide +kernel
theorem dX12_meetNow_66 : decode cX12_meetNow 66 = .ok (.iconst 0, 1) := by decide +kernel
theorem dX12_meetNow_67 : decode cX12_meetNow 67 = .ok (.istore 7, 2) := by decide +kernel
theorem dX12_meetNow_69 : decode cX12_meetNow 69 = .ok (.iload 7, 2) := by decide +kernel
theorem dX12_meetNow_71 : decode cX12_meetNow 71 = .ok (.iload_n 3, 1) := by decide +kernel
theorem dX12_meetNow_72 : decode cX12_meetNow 72 = .ok (.if_icmp .ge 27, 3) := by decide +kernel
theorem dX12_meetNow_75 : decode cX12_meetNow 75 = .ok (.aload_n 0, 1) := by decide +kernel
theorem dX12_meetNow_76 : decode cX12_meetNow 76 = .ok (.iconst 0, 1) := by decide +kernel
theorem dX12_meetNow_77 : decode cX12_meetNow 77 = .ok (.invokevirtual 261, 3) := by decide +kernel
theorem dX12_meetNow_80 : decode cX12_meetNow 80 = .ok (.aload_n 0, 1) := by decide +kernel
theorem dX12_meetNow_81 : decode cX12_meetNow 81 = .ok (.iconst 5, 1) := by decide +kernel
theorem dX12_meetNow_82 : decode cX12_meetNow 82 = .ok (.invokevirtual 261, 3) := by decide +kernel
theorem dX12_meetNow_85 : decode cX12_meetNow 85 = .ok (.lload 5, 2) := by decide +kernel
theorem dX12_meetNow_87 : decode cX12_meetNow 87 = .ok (.ldc2_w 265, 3) := by decide +kernel
theorem dX12_meetNow_90 : decode cX12_meetNow 90 = .ok (.lmul, 1) := by decide +kernel
theorem dX12_meetNow_91 : decode cX12_meetNow 91 = .ok (.lstore 5, 2) := by decide +kernel
theorem dX12_meetNow_93 : decode cX12_meetNow 93 = .ok (.iinc 7 1, 3) := by decide +kernel
theorem dX12_meetNow_96 : decode cX12_meetNow 96 = .ok (.goto (-27), 3) := by decide +kernel
theorem dX12_meetNow_99 : decode cX12_meetNow 99 = .ok (.lconst 0, 1) := by decide +kernel
theorem dX12_meetNow_100 : decode cX12_meetNow 100 = .ok (.lstore 7, 2) := by decide +kernel
theorem dX12_meetNow_102 : decode cX12_meetNow 102 = .ok (.iconst 0, 1) := by decide +kernel
theorem dX12_meetNow_103 : decode cX12_meetNow 103 = .ok (.istore 9, 2) := by decide +kernel
theorem dX12_meetNow_105 : decode cX12_meetNow 105 = .ok (.iload 9, 2) := by decide +kernel
theorem dX12_meetNow_107 : decode cX12_meetNow 107 = .ok (.aload_n 0, 1) := by decide +kernel
theorem dX12_meetNow_108 : decode cX12_meetNow 108 = .ok (.getfield 150, 3) := by decide +kernel
theorem dX12_meetNow_111 : decode cX12_meetNow 111 = .ok (.if_icmp .ge 31, 3) := by decide +kernel
theorem dX12_meetNow_114 : decode cX12_meetNow 114 = .ok (.lload 7, 2) := by decide +kernel
theorem dX12_meetNow_116 : decode cX12_meetNow 116 = .ok (.aload_n 0, 1) := by decide +kernel
theorem dX12_meetNow_117 : decode cX12_meetNow 117 = .ok (.getfield 68, 3) := by decide +kernel
theorem dX12_meetNow_120 : decode cX12_meetNow 120 = .ok (.iload 9, 2) := by decide +kernel
theorem dX12_meetNow_122 : decode cX12_meetNow 122 = .ok (.laload, 1) := by decide +kernel
theorem dX12_meetNow_123 : decode cX12_meetNow 123 = .ok (.aload_n 0, 1) := by decide +kernel
theorem dX12_meetNow_124 : decode cX12_meetNow 124 = .ok (.getfield 68, 3) := by decide +kernel
theorem dX12_meetNow_127 : decode cX12_meetNow 127 = .ok (.iconst 5, 1) := by decide +kernel
theorem dX12_meetNow_128 : decode cX12_meetNow 128 = .ok (.iload 9, 2) := by decide +kernel
theorem dX12_meetNow_130 : decode cX12_meetNow 130 = .ok (.iadd, 1) := by decide +kernel
theorem dX12_meetNow_131 : decode cX12_meetNow 131 = .ok (.laload, 1) := by decide +kernel
theorem dX12_meetNow_132 : decode cX12_meetNow 132 = .ok (.lmul, 1) := by decide +kernel
theorem dX12_meetNow_133 : decode cX12_meetNow 133 = .ok (.ladd, 1) := by decide +kernel
theorem dX12_meetNow_134 : decode cX12_meetNow 134 = .ok (.lstore 7, 2) := by decide +kernel
theorem dX12_meetNow_136 : decode cX12_meetNow 136 = .ok (.iinc 9 1, 3) := by decide +kernel
theorem dX12_meetNow_139 : decode cX12_meetNow 139 = .ok (.goto (-34), 3) := by decide +kernel
theorem dX12_meetNow_142 : decode cX12_meetNow 142 = .ok (.lload 7, 2) := by decide +kernel
theorem dX12_meetNow_144 : decode cX12_meetNow 144 = .ok (.lload 5, 2) := by decide +kernel
theorem dX12_meetNow_146 : decode cX12_meetNow 146 = .ok (.invokestatic 267, 3) := by decide +kernel
theorem dX12_meetNow_149 : decode cX12_meetNow 149 = .ok (.lstore 9, 2) := by decide +kernel
theorem dX12_meetNow_151 : decode cX12_meetNow 151 = .ok (.iload 4, 2) := by decide +kernel
theorem dX12_meetNow_153 : decode cX12_meetNow 153 = .ok (.ifCond .ne 11, 3) := by decide +kernel
theorem dX12_meetNow_156 : decode cX12_meetNow 156 = .ok (.lload 7, 2) := by decide +kernel
theorem dX12_meetNow_158 : decode cX12_meetNow 158 = .ok (.lload 9, 2) := by decide +kernel
theorem dX12_meetNow_160 : decode cX12_meetNow 160 = .ok (.ldiv, 1) := by decide +kernel
theorem dX12_meetNow_161 : decode cX12_meetNow 161 = .ok (.goto 8, 3) := by decide +kernel
theorem dX12_meetNow_164 : decode cX12_meetNow 164 = .ok (.lload 5, 2) := by decide +kernel
theorem dX12_meetNow_166 : decode cX12_meetNow 166 = .ok (.lload 9, 2) := by decide +kernel
theorem dX12_meetNow_168 : decode cX12_meetNow 168 = .ok (.ldiv, 1) := by decide +kernel
theorem dX12_meetNow_169 : decode cX12_meetNow 169 = .ok (.lreturn, 1) := by decide +kernel
set_option maxRecDepth 20000 in
theorem ggX12_meet_X12_isPerson : GoodIn wsX12_meet wsX12_isPerson := goodIn_r _ [7, 8, 9, 10, 6, 11, 44, 45, 46, 47, 48, 49, 50, 51, 52, 53, 54, 55, 56, 57, 58, 59, 60, 61, 62, 63, 64, 65, 66, 67, 68, 69, 70, 71, 72, 73, 74, 75, 76, 77, 78, 79, 80, 81, 82, 83, 84, 85, 86, 87, 88, 89, 90, 91, 92] (by decide +kernel) (by decide +kernel)
set_option maxRecDepth 20000 in
theorem gX12_meet_X12_isPerson : GoodIn wsX12_meet (wsV RX12 168 RX12 yX12_isPerson wsX12_isPerson) := goodIn_app (goodIn_of _ (by decide +kernel)) ggX12_meet_X12_isPerson
set_option maxRecDepth 20000 in
theorem ggX12_meet_X12_within : GoodIn wsX12_meet wsX12_within := goodIn_r _ [11] (by decide +kernel) (by decide +kernel)
set_option maxRecDepth 20000 in
theorem gX12_meet_X12_within : GoodIn wsX12_meet (va_wsS RX12 108 yX12_within wsX12_within) := goodIn_app (goodIn_of _ (by decide +kernel)) ggX12_meet_X12_within
set_option maxRecDepth 20000 in
theorem ggX12_meet_X12_meetNow : GoodIn wsX12_meet wsX12_meetNow := goodIn_r _ [15, 16, 17, 18, 19, 20, 21, 22, 6, 23, 24, 25, 26, 27, 28, 29, 30, 31, 32, 33, 34, 35, 36, 37, 38, 39, 40, 41, 42, 43, 44, 45, 46, 47, 48, 49, 50, 51, 52, 53, 54, 55, 56, 57, 58, 59, 60, 61, 62, 63, 64, 65, 66, 67, 68, 69, 70, 71, 72, 73, 74, 75, 76, 77, 78, 79, 80, 81, 82, 83, 84, 85, 86, 87, 88, 89, 90, 91, 92] (by decide +kernel) (by decide +kernel)
set_option maxRecDepth 20000 in
theorem gX12_meet_X12_meetNow : GoodIn wsX12_meet (wsV RX12 273 RX12 yX12_meetNow wsX12_meetNow) := goodIn_app (goodIn_of _ (by decide +kernel)) ggX12_meet_X12_meetNow
theorem dX12_meet_0 : decode cX12_meet 0 = .ok (.aload_n 0, 1) := by decide +kernel
theorem dX12_meet_1 : decode cX12_meet 1 = .ok (.iload_n 1, 1) := by decide +kernel
theorem dX12_meet_2 : decode cX12_meet 2 = .ok (.invokevirtual 168, 3) := by decide +kernel
theorem dX12_meet_5 : decode cX12_meet 5 = .ok (.ifCond .eq 16, 3) := by decide +kernel
theorem dX12_meet_8 : decode cX12_meet 8 = .ok (.aload_n 0, 1) := by decide +kernel
theorem dX12_meet_9 : decode cX12_meet 9 = .ok (.iload_n 2, 1) := by decide +kernel
theorem dX12_meet_10 : decode cX12_meet 10 = .ok (.invokevirtual 168, 3) := by decide +kernel
theorem dX12_meet_13 : decode cX12_meet 13 = .ok (.ifCond .eq 8, 3) := by decide +kernel
theorem dX12_meet_16 : decode cX12_meet 16 = .ok (.iload_n 1, 1) := by decide +kernel
theorem dX12_meet_17 : decode cX12_meet 17 = .ok (.iload_n 2, 1) := by decide +kernel
theorem dX12_meet_18 : decode cX12_meet 18 = .ok (.if_icmp .ne 7, 3) := by decide +kernel
theorem dX12_meet_21 : decode cX12_meet 21 = .ok (.ldc2_w 271, 3) := by decide +kernel
theorem dX12_meet_24 : decode cX12_meet 24 = .ok (.lreturn, 1) := by decide +kernel
theorem dX12_meet_25 : decode cX12_meet 25 = .ok (.iload_n 3, 1) := by decide +kernel
theorem dX12_meet_26 : decode cX12_meet 26 = .ok (.iconst 1, 1) := by decide +kernel
theorem dX12_meet_27 : decode cX12_meet 27 = .ok (.iconst 3, 1) := by decide +kernel
theorem dX12_meet_28 : decode cX12_meet 28 = .ok (.invokestatic 108, 3) := by decide +kernel
theorem dX12_meet_31 : decode cX12_meet 31 = .ok (.ifCond .eq 25, 3) := by decide +kernel
theorem dX12_meet_34 : decode cX12_meet 34 = .ok (.iload 4, 2) := by decide +kernel
theorem dX12_meet_36 : decode cX12_meet 36 = .ok (.iconst 0, 1) := by decide +kernel
theorem dX12_meet_37 : decode cX12_meet 37 = .ok (.iconst 1, 1) := by decide +kernel
theorem dX12_meet_38 : decode cX12_meet 38 = .ok (.invokestatic 108, 3) := by decide +kernel
theorem dX12_meet_41 : decode cX12_meet 41 = .ok (.ifCond .eq 15, 3) := by decide +kernel
theorem dX12_meet_44 : decode cX12_meet 44 = .ok (.aload_n 0, 1) := by decide +kernel
theorem dX12_meet_45 : decode cX12_meet 45 = .ok (.iload_n 1, 1) := by decide +kernel
theorem dX12_meet_46 : decode cX12_meet 46 = .ok (.iload_n 2, 1) := by decide +kernel
theorem dX12_meet_47 : decode cX12_meet 47 = .ok (.iload_n 3, 1) := by decide +kernel
theorem dX12_meet_48 : decode cX12_meet 48 = .ok (.iload 4, 2) := by decide +kernel
theorem dX12_meet_50 : decode cX12_meet 50 = .ok (.invokevirtual 273, 3) := by decide +kernel
theorem dX12_meet_53 : decode cX12_meet 53 = .ok (.goto 6, 3) := by decide +kernel
theorem dX12_meet_56 : decode cX12_meet 56 = .ok (.ldc2_w 277, 3) := by decide +kernel
theorem dX12_meet_59 : decode cX12_meet 59 = .ok (.lreturn, 1) := by decide +kernel
set_option maxRecDepth 20000 in
theorem ggX12_see_X12_isPerson : GoodIn wsX12_see wsX12_isPerson := goodIn_r _ [10, 11, 12, 13, 9, 14, 24, 25, 26, 27, 28, 29, 30, 31, 32, 33, 34, 35, 36, 37, 38, 39, 40, 41, 42, 43, 44, 45, 46, 47, 48, 49, 50, 51, 52, 53, 54, 55, 56, 57, 58, 59, 60, 61, 62, 63, 64, 65, 66, 67, 68, 69, 70, 71, 72] (by decide +kernel) (by decide +kernel)
set_option maxRecDepth 20000 in
theorem gX12_see_X12_isPerson : GoodIn wsX12_see (wsV RX12 168 RX12 yX12_isPerson wsX12_isPerson) := goodIn_app (goodIn_of _ (by decide +kernel)) ggX12_see_X12_isPerson
set_option maxRecDepth 20000 in
theorem ggX12_see_X12_isPassage : GoodIn wsX12_see wsX12_isPassage := goodIn_r _ [18, 19, 12, 13, 9, 14, 24, 25, 26, 27, 28, 29, 30, 31, 32, 33, 34, 35, 36, 37, 38, 39, 40, 41, 42, 43, 44, 45, 46, 47, 48, 49, 50, 51, 52, 53, 54, 55, 56, 57, 58, 59, 60, 61, 62, 63, 64, 65, 66, 67, 68, 69, 70, 71, 72] (by decide +kernel) (by decide +kernel)
set_option maxRecDepth 20000 in
theorem gX12_see_X12_isPassage : GoodIn wsX12_see (wsV RX12 184 RX12 yX12_isPassage wsX12_isPassage) := goodIn_app (goodIn_of _ (by decide +kernel)) ggX12_see_X12_isPassage
set_option maxRecDepth 20000 in
theorem ggX12_see_X12_isWith : GoodIn wsX12_see wsX12_isWith := goodIn_r _ [23, 6, 7, 8, 9, 10, 11, 12, 13, 14, 24, 25, 26, 27, 28, 29, 30, 31, 32, 33, 34, 35, 36, 37, 38, 39, 40, 41, 42, 43, 44, 45, 46, 47, 48, 49, 50, 51, 52, 53, 54, 55, 56, 57, 58, 59, 60, 61, 62, 63, 64, 65, 66, 67, 68, 69, 70, 71, 72] (by decide +kernel) (by decide +kernel)
set_option maxRecDepth 20000 in
theorem gX12_see_X12_isWith : GoodIn wsX12_see (wsV RX12 190 RX12 yX12_isWith wsX12_isWith) := goodIn_app (goodIn_of _ (by decide +kernel)) ggX12_see_X12_isWith
set_option maxRecDepth 20000 in
theorem ggX12_see_X12_within : GoodIn wsX12_see wsX12_within := goodIn_r _ [14] (by decide +kernel) (by decide +kernel)
set_option maxRecDepth 20000 in
theorem gX12_see_X12_within : GoodIn wsX12_see (va_wsS RX12 108 yX12_within wsX12_within) := goodIn_app (goodIn_of _ (by decide +kernel)) ggX12_see_X12_within
theorem dX12_see_0 : decode cX12_see 0 = .ok (.aload_n 0, 1) := by decide +kernel
theorem dX12_see_1 : decode cX12_see 1 = .ok (.iload_n 1, 1) := by decide +kernel
theorem dX12_see_2 : decode cX12_see 2 = .ok (.invokevirtual 168, 3) := by decide +kernel
theorem dX12_see_5 : decode cX12_see 5 = .ok (.ifCond .eq 20, 3) := by decide +kernel
theorem dX12_see_8 : decode cX12_see 8 = .ok (.aload_n 0, 1) := by decide +kernel
theorem dX12_see_9 : decode cX12_see 9 = .ok (.iload_n 2, 1) := by decide +kernel
theorem dX12_see_10 : decode cX12_see 10 = .ok (.invokevirtual 184, 3) := by decide +kernel
theorem dX12_see_13 : decode cX12_see 13 = .ok (.ifCond .eq 12, 3) := by decide +kernel
theorem dX12_see_16 : decode cX12_see 16 = .ok (.aload_n 0, 1) := by decide +kernel
theorem dX12_see_17 : decode cX12_see 17 = .ok (.iload_n 1, 1) := by decide +kernel
theorem dX12_see_18 : decode cX12_see 18 = .ok (.iload_n 3, 1) := by decide +kernel
theorem dX12_see_19 : decode cX12_see 19 = .ok (.invokevirtual 190, 3) := by decide +kernel
theorem dX12_see_22 : decode cX12_see 22 = .ok (.ifCond .ne 6, 3) := by decide +kernel
theorem dX12_see_25 : decode cX12_see 25 = .ok (.bipush (-101), 2) := by decide +kernel
theorem dX12_see_27 : decode cX12_see 27 = .ok (.ireturn, 1) := by decide +kernel
theorem dX12_see_28 : decode cX12_see 28 = .ok (.iload 4, 2) := by decide +kernel
theorem dX12_see_30 : decode cX12_see 30 = .ok (.iconst 0, 1) := by decide +kernel
theorem dX12_see_31 : decode cX12_see 31 = .ok (.bipush 120, 2) := by decide +kernel
theorem dX12_see_33 : decode cX12_see 33 = .ok (.invokestatic 108, 3) := by decide +kernel
theorem dX12_see_36 : decode cX12_see 36 = .ok (.ifCond .ne 6, 3) := by decide +kernel
theorem dX12_see_39 : decode cX12_see 39 = .ok (.bipush (-102), 2) := by decide +kernel
theorem dX12_see_41 : decode cX12_see 41 = .ok (.ireturn, 1) := by decide +kernel
theorem dX12_see_42 : decode cX12_see 42 = .ok (.aload_n 0, 1) := by decide +kernel
theorem dX12_see_43 : decode cX12_see 43 = .ok (.getfield 165, 3) := by decide +kernel
theorem dX12_see_46 : decode cX12_see 46 = .ok (.bipush 6, 2) := by decide +kernel
theorem dX12_see_48 : decode cX12_see 48 = .ok (.if_icmp .ne 6, 3) := by decide +kernel
theorem dX12_see_51 : decode cX12_see 51 = .ok (.bipush (-104), 2) := by decide +kernel
theorem dX12_see_53 : decode cX12_see 53 = .ok (.ireturn, 1) := by decide +kernel
theorem dX12_see_54 : decode cX12_see 54 = .ok (.aload_n 0, 1) := by decide +kernel
theorem dX12_see_55 : decode cX12_see 55 = .ok (.getfield 34, 3) := by decide +kernel
theorem dX12_see_58 : decode cX12_see 58 = .ok (.aload_n 0, 1) := by decide +kernel
theorem dX12_see_59 : decode cX12_see 59 = .ok (.getfield 165, 3) := by decide +kernel
theorem dX12_see_62 : decode cX12_see 62 = .ok (.iload_n 1, 1) := by decide +kernel
theorem dX12_see_63 : decode cX12_see 63 = .ok (.iastore, 1) := by decide +kernel
theorem dX12_see_64 : decode cX12_see 64 = .ok (.aload_n 0, 1) := by decide +kernel
theorem dX12_see_65 : decode cX12_see 65 = .ok (.getfield 37, 3) := by decide +kernel
theorem dX12_see_68 : decode cX12_see 68 = .ok (.aload_n 0, 1) := by decide +kernel
theorem dX12_see_69 : decode cX12_see 69 = .ok (.getfield 165, 3) := by decide +kernel
theorem dX12_see_72 : decode cX12_see 72 = .ok (.iload_n 2, 1) := by decide +kernel
theorem dX12_see_73 : decode cX12_see 73 = .ok (.iastore, 1) := by decide +kernel
theorem dX12_see_74 : decode cX12_see 74 = .ok (.aload_n 0, 1) := by decide +kernel
theorem dX12_see_75 : decode cX12_see 75 = .ok (.getfield 40, 3) := by decide +kernel
theorem dX12_see_78 : decode cX12_see 78 = .ok (.aload_n 0, 1) := by decide +kernel
theorem dX12_see_79 : decode cX12_see 79 = .ok (.getfield 165, 3) := by decide +kernel
theorem dX12_see_82 : decode cX12_see 82 = .ok (.iload_n 3, 1) := by decide +kernel
theorem dX12_see_83 : decode cX12_see 83 = .ok (.iastore, 1) := by decide +kernel
theorem dX12_see_84 : decode cX12_see 84 = .ok (.aload_n 0, 1) := by decide +kernel
theorem dX12_see_85 : decode cX12_see 85 = .ok (.getfield 43, 3) := by decide +kernel
theorem dX12_see_88 : decode cX12_see 88 = .ok (.aload_n 0, 1) := by decide +kernel
theorem dX12_see_89 : decode cX12_see 89 = .ok (.getfield 165, 3) := by decide +kernel
theorem dX12_see_92 : decode cX12_see 92 = .ok (.iload 4, 2) := by decide +kernel
theorem dX12_see_94 : decode cX12_see 94 = .ok (.iastore, 1) := by decide +kernel
theorem dX12_see_95 : decode cX12_see 95 = .ok (.aload_n 0, 1) := by decide +kernel
theorem dX12_see_96 : decode cX12_see 96 = .ok (.dup, 1) := by decide +kernel
theorem dX12_see_97 : decode cX12_see 97 = .ok (.getfield 165, 3) := by decide +kernel
theorem dX12_see_100 : decode cX12_see 100 = .ok (.iconst 1, 1) := by decide +kernel
theorem dX12_see_101 : decode cX12_see 101 = .ok (.iadd, 1) := by decide +kernel
theorem dX12_see_102 : decode cX12_see 102 = .ok (.putfield 165, 3) := by decide +kernel
theorem dX12_see_105 : decode cX12_see 105 = .ok (.aload_n 0, 1) := by decide +kernel
theorem dX12_see_106 : decode cX12_see 106 = .ok (.getfield 165, 3) := by decide +kernel
theorem dX12_see_109 : decode cX12_see 109 = .ok (.ireturn, 1) := by decide +kernel
theorem dX12_forget_0 : decode cX12_forget 0 = .ok (.aload_n 0, 1) := by decide +kernel
theorem dX12_forget_1 : decode cX12_forget 1 = .ok (.getfield 165, 3) := by decide +kernel
theorem dX12_forget_4 : decode cX12_forget 4 = .ok (.istore_n 1, 1) := by decide +kernel
theorem dX12_forget_5 : decode cX12_forget 5 = .ok (.aload_n 0, 1) := by decide +kernel
theorem dX12_forget_6 : decode cX12_forget 6 = .ok (.iconst 0, 1) := by decide +kernel
theorem dX12_forget_7 : decode cX12_forget 7 = .ok (.putfield 165, 3) := by decide +kernel
theorem dX12_forget_10 : decode cX12_forget 10 = .ok (.iload_n 1, 1) := by decide +kernel
theorem dX12_forget_11 : decode cX12_forget 11 = .ok (.ireturn, 1) := by decide +kernel
set_option maxRecDepth 20000 in
theorem ggX12_stepsWith_X12_stepsOf : GoodIn wsX12_stepsWith wsX12_stepsOf := goodIn_r _ [6, 7, 8, 9, 5, 10, 11, 12, 1, 13, 14, 15, 16, 17, 18, 19, 20, 21, 22, 23, 24, 25, 26, 27, 28, 29, 30, 31, 32, 33, 34, 35, 36, 37, 38, 39, 40, 41, 42, 43, 44, 45, 46, 47, 48, 49, 50, 51, 52, 53, 54, 55, 56, 57, 58, 59, 60, 61, 62] (by decide +kernel) (by decide +kernel)
set_option maxRecDepth 20000 in
theorem gX12_stepsWith_X12_stepsOf : GoodIn wsX12_stepsWith (wsV RX12 194 RX12 yX12_stepsOf wsX12_stepsOf) := goodIn_app (goodIn_of _ (by decide +kernel)) ggX12_stepsWith_X12_stepsOf
theorem dX12_stepsWith_0 : decode cX12_stepsWith 0 = .ok (.aload_n 0, 1) := by decide +kernel
theorem dX12_stepsWith_1 : decode cX12_stepsWith 1 = .ok (.getfield 25, 3) := by decide +kernel
theorem dX12_stepsWith_4 : decode cX12_stepsWith 4 = .ok (.iload_n 1, 1) := by decide +kernel
theorem dX12_stepsWith_5 : decode cX12_stepsWith 5 = .ok (.iaload, 1) := by decide +kernel
theorem dX12_stepsWith_6 : decode cX12_stepsWith 6 = .ok (.istore 5, 2) := by decide +kernel
theorem dX12_stepsWith_8 : decode cX12_stepsWith 8 = .ok (.aload_n 0, 1) := by decide +kernel
theorem dX12_stepsWith_9 : decode cX12_stepsWith 9 = .ok (.getfield 25, 3) := by decide +kernel
theorem dX12_stepsWith_12 : decode cX12_stepsWith 12 = .ok (.iload_n 1, 1) := by decide +kernel
theorem dX12_stepsWith_13 : decode cX12_stepsWith 13 = .ok (.iload_n 2, 1) := by decide +kernel
theorem dX12_stepsWith_14 : decode cX12_stepsWith 14 = .ok (.iastore, 1) := by decide +kernel
theorem dX12_stepsWith_15 : decode cX12_stepsWith 15 = .ok (.aload_n 0, 1) := by decide +kernel
theorem dX12_stepsWith_16 : decode cX12_stepsWith 16 = .ok (.iload_n 1, 1) := by decide +kernel
theorem dX12_stepsWith_17 : decode cX12_stepsWith 17 = .ok (.iload_n 3, 1) := by decide +kernel
theorem dX12_stepsWith_18 : decode cX12_stepsWith 18 = .ok (.iload 4, 2) := by decide +kernel
theorem dX12_stepsWith_20 : decode cX12_stepsWith 20 = .ok (.invokevirtual 194, 3) := by decide +kernel
theorem dX12_stepsWith_23 : decode cX12_stepsWith 23 = .ok (.istore 6, 2) := by decide +kernel
theorem dX12_stepsWith_25 : decode cX12_stepsWith 25 = .ok (.aload_n 0, 1) := by decide +kernel
theorem dX12_stepsWith_26 : decode cX12_stepsWith 26 = .ok (.getfield 25, 3) := by decide +kernel
theorem dX12_stepsWith_29 : decode cX12_stepsWith 29 = .ok (.iload_n 1, 1) := by decide +kernel
theorem dX12_stepsWith_30 : decode cX12_stepsWith 30 = .ok (.iload 5, 2) := by decide +kernel
theorem dX12_stepsWith_32 : decode cX12_stepsWith 32 = .ok (.iastore, 1) := by decide +kernel
theorem dX12_stepsWith_33 : decode cX12_stepsWith 33 = .ok (.iload 6, 2) := by decide +kernel
theorem dX12_stepsWith_35 : decode cX12_stepsWith 35 = .ok (.ireturn, 1) := by decide +kernel
set_option maxRecDepth 20000 in
theorem ggX12_liesBits_X12_stepsWith : GoodIn wsX12_liesBits wsX12_stepsWith := goodIn_r _ [10, 11, 12, 13, 14, 9, 15, 16, 17, 18, 19, 20, 21, 22, 23, 24, 25, 26, 27, 28, 29, 30, 31, 32, 33, 34, 35, 36, 37, 38, 39, 40, 41, 42, 43, 44, 45, 46, 47, 48, 49, 50, 51, 52, 53, 54, 55, 56, 57, 58, 59, 60, 61, 62, 63, 64, 65, 66, 67, 68, 69, 70, 71] (by decide +kernel) (by decide +kernel)
set_option maxRecDepth 20000 in
theorem gX12_liesBits_X12_stepsWith : GoodIn wsX12_liesBits (wsV RX12 279 RX12 yX12_stepsWith wsX12_stepsWith) := goodIn_app (goodIn_of _ (by decide +kernel)) ggX12_liesBits_X12_stepsWith
theorem dX12_liesBits_0 : decode cX12_liesBits 0 = .ok (.iconst 0, 1) := by decide +kernel
theorem dX12_liesBits_1 : decode cX12_liesBits 1 = .ok (.istore_n 2, 1) := by decide +kernel
theorem dX12_liesBits_2 : decode cX12_liesBits 2 = .ok (.iconst 0, 1) := by decide +kernel
theorem dX12_liesBits_3 : decode cX12_liesBits 3 = .ok (.istore_n 3, 1) := by decide +kernel
theorem dX12_liesBits_4 : decode cX12_liesBits 4 = .ok (.iload_n 3, 1) := by decide +kernel
theorem dX12_liesBits_5 : decode cX12_liesBits 5 = .ok (.bipush 9, 2) := by decide +kernel
theorem dX12_liesBits_7 : decode cX12_liesBits 7 = .ok (.if_icmp .gt 98, 3) := by decide +kernel
theorem dX12_liesBits_10 : decode cX12_liesBits 10 = .ok (.iconst 1, 1) := by decide +kernel
theorem dX12_liesBits_11 : decode cX12_liesBits 11 = .ok (.istore 4, 2) := by decide +kernel
theorem dX12_liesBits_13 : decode cX12_liesBits 13 = .ok (.iconst 0, 1) := by decide +kernel
theorem dX12_liesBits_14 : decode cX12_liesBits 14 = .ok (.istore 5, 2) := by decide +kernel
theorem dX12_liesBits_16 : decode cX12_liesBits 16 = .ok (.iload 5, 2) := by decide +kernel
theorem dX12_liesBits_18 : decode cX12_liesBits 18 = .ok (.aload_n 0, 1) := by decide +kernel
theorem dX12_liesBits_19 : decode cX12_liesBits 19 = .ok (.getfield 165, 3) := by decide +kernel
theorem dX12_liesBits_22 : decode cX12_liesBits 22 = .ok (.if_icmp .ge 62, 3) := by decide +kernel
theorem dX12_liesBits_25 : decode cX12_liesBits 25 = .ok (.iload 4, 2) := by decide +kernel
theorem dX12_liesBits_27 : decode cX12_liesBits 27 = .ok (.ifCond .eq 48, 3) := by decide +kernel
theorem dX12_liesBits_30 : decode cX12_liesBits 30 = .ok (.aload_n 0, 1) := by decide +kernel
theorem dX12_liesBits_31 : decode cX12_liesBits 31 = .ok (.getfield 34, 3) := by decide +kernel
theorem dX12_liesBits_34 : decode cX12_liesBits 34 = .ok (.iload 5, 2) := by decide +kernel
theorem dX12_liesBits_36 : decode cX12_liesBits 36 = .ok (.iaload, 1) := by decide +kernel
theorem dX12_liesBits_37 : decode cX12_liesBits 37 = .ok (.iload_n 1, 1) := by decide +kernel
theorem dX12_liesBits_38 : decode cX12_liesBits 38 = .ok (.if_icmp .ne 33, 3) := by decide +kernel
theorem dX12_liesBits_41 : decode cX12_liesBits 41 = .ok (.aload_n 0, 1) := by decide +kernel
theorem dX12_liesBits_42 : decode cX12_liesBits 42 = .ok (.iload_n 1, 1) := by decide +kernel
theorem dX12_liesBits_43 : decode cX12_liesBits 43 = .ok (.iload_n 3, 1) := by decide +kernel
theorem dX12_liesBits_44 : decode cX12_liesBits 44 = .ok (.aload_n 0, 1) := by decide +kernel
theorem dX12_liesBits_45 : decode cX12_liesBits 45 = .ok (.getfield 37, 3) := by decide +kernel
theorem dX12_liesBits_48 : decode cX12_liesBits 48 = .ok (.iload 5, 2) := by decide +kernel
theorem dX12_liesBits_50 : decode cX12_liesBits 50 = .ok (.iaload, 1) := by decide +kernel
theorem dX12_liesBits_51 : decode cX12_liesBits 51 = .ok (.aload_n 0, 1) := by decide +kernel
theorem dX12_liesBits_52 : decode cX12_liesBits 52 = .ok (.getfield 40, 3) := by decide +kernel
theorem dX12_liesBits_55 : decode cX12_liesBits 55 = .ok (.iload 5, 2) := by decide +kernel
theorem dX12_liesBits_57 : decode cX12_liesBits 57 = .ok (.iaload, 1) := by decide +kernel
theorem dX12_liesBits_58 : decode cX12_liesBits 58 = .ok (.invokevirtual 279, 3) := by decide +kernel
theorem dX12_liesBits_61 : decode cX12_liesBits 61 = .ok (.aload_n 0, 1) := by decide +kernel
theorem dX12_liesBits_62 : decode cX12_liesBits 62 = .ok (.getfield 43, 3) := by decide +kernel
theorem dX12_liesBits_65 : decode cX12_liesBits 65 = .ok (.iload 5, 2) := by decide +kernel
theorem dX12_liesBits_67 : decode cX12_liesBits 67 = .ok (.iaload, 1) := by decide +kernel
theorem dX12_liesBits_68 : decode cX12_liesBits 68 = .ok (.if_icmp .ne 7, 3) := by decide +kernel
theorem dX12_liesBits_71 : decode cX12_liesBits 71 = .ok (.iconst 1, 1) := by decide +kernel
theorem dX12_liesBits_72 : decode cX12_liesBits 72 = .ok (.goto 4, 3) := by decide +kernel
theorem dX12_liesBits_75 : decode cX12_liesBits 75 = .ok (.iconst 0, 1) := by decide +kernel
theorem dX12_liesBits_76 : decode cX12_liesBits 76 = .ok (.istore 4, 2) := by decide +kernel
theorem dX12_liesBits_78 : decode cX12_liesBits 78 = .ok (.iinc 5 1, 3) := by decide +kernel
theorem dX12_liesBits_81 : decode cX12_liesBits 81 = .ok (.goto (-65), 3) := by decide +kernel
theorem dX12_liesBits_84 : decode cX12_liesBits 84 = .ok (.iload_n 2, 1) := by decide +kernel
theorem dX12_liesBits_85 : decode cX12_liesBits 85 = .ok (.iload 4, 2) := by decide +kernel
theorem dX12_liesBits_87 : decode cX12_liesBits 87 = .ok (.ifCond .eq 9, 3) := by decide +kernel
theorem dX12_liesBits_90 : decode cX12_liesBits 90 = .ok (.iconst 1, 1) := by decide +kernel
theorem dX12_liesBits_91 : decode cX12_liesBits 91 = .ok (.iload_n 3, 1) := by decide +kernel
theorem dX12_liesBits_92 : decode cX12_liesBits 92 = .ok (.ishl, 1) := by decide +kernel
theorem dX12_liesBits_93 : decode cX12_liesBits 93 = .ok (.goto 4, 3) := by decide +kernel
theorem dX12_liesBits_96 : decode cX12_liesBits 96 = .ok (.iconst 0, 1) := by decide +kernel
theorem dX12_liesBits_97 : decode cX12_liesBits 97 = .ok (.ior, 1) := by decide +kernel
theorem dX12_liesBits_98 : decode cX12_liesBits 98 = .ok (.istore_n 2, 1) := by decide +kernel
theorem dX12_liesBits_99 : decode cX12_liesBits 99 = .ok (.iinc 3 1, 3) := by decide +kernel
theorem dX12_liesBits_102 : decode cX12_liesBits 102 = .ok (.goto (-98), 3) := by decide +kernel
theorem dX12_liesBits_105 : decode cX12_liesBits 105 = .ok (.iload_n 2, 1) := by decide +kernel
theorem dX12_liesBits_106 : decode cX12_liesBits 106 = .ok (.ireturn, 1) := by decide +kernel
set_option maxRecDepth 20000 in
theorem ggX12_worstBy_X12_isIn : GoodIn wsX12_worstBy wsX12_isIn := goodIn_r _ [4] (by decide +kernel) (by decide +kernel)
set_option maxRecDepth 20000 in
theorem gX12_worstBy_X12_isIn : GoodIn wsX12_worstBy (va_wsS RX12 225 yX12_isIn wsX12_isIn) := goodIn_app (goodIn_of _ (by decide +kernel)) ggX12_worstBy_X12_isIn
set_option maxRecDepth 20000 in
theorem ggX12_worstBy_X12_stepsWith : GoodIn wsX12_worstBy wsX12_stepsWith := goodIn_r _ [8, 9, 10, 11, 12, 3, 13, 14, 15, 16, 17, 18, 19, 20, 21, 22, 23, 24, 25, 26, 27, 28, 29, 30, 31, 32, 33, 34, 35, 36, 37, 38, 39, 40, 41, 42, 43, 44, 45, 46, 47, 48, 49, 50, 51, 52, 53, 54, 55, 56, 57, 58, 59, 60, 61, 62, 63, 64, 65, 66, 67, 68, 69] (by decide +kernel) (by decide +kernel)
set_option maxRecDepth 20000 in
theorem gX12_worstBy_X12_stepsWith : GoodIn wsX12_worstBy (wsV RX12 279 RX12 yX12_stepsWith wsX12_stepsWith) := goodIn_app (goodIn_of _ (by decide +kernel)) ggX12_worstBy_X12_stepsWith
theorem dX12_worstBy_0 : decode cX12_worstBy 0 = .ok (.iconst 0, 1) := by decide +kernel
theorem dX12_worstBy_1 : decode cX12_worstBy 1 = .ok (.istore 5, 2) := by decide +kernel
theorem dX12_worstBy_3 : decode cX12_worstBy 3 = .ok (.iconst 0, 1) := by decide +kernel
theorem dX12_worstBy_4 : decode cX12_worstBy 4 = .ok (.istore 6, 2) := by decide +kernel
theorem dX12_worstBy_6 : decode cX12_worstBy 6 = .ok (.iload 6, 2) := by decide +kernel
theorem dX12_worstBy_8 : decode cX12_worstBy 8 = .ok (.bipush 9, 2) := by decide +kernel
theorem dX12_worstBy_10 : decode cX12_worstBy 10 = .ok (.if_icmp .gt 95, 3) := by decide +kernel
theorem dX12_worstBy_13 : decode cX12_worstBy 13 = .ok (.iconst 0, 1) := by decide +kernel
theorem dX12_worstBy_14 : decode cX12_worstBy 14 = .ok (.istore 7, 2) := by decide +kernel
theorem dX12_worstBy_16 : decode cX12_worstBy 16 = .ok (.iconst 0, 1) := by decide +kernel
theorem dX12_worstBy_17 : decode cX12_worstBy 17 = .ok (.istore 8, 2) := by decide +kernel
theorem dX12_worstBy_19 : decode cX12_worstBy 19 = .ok (.iload 8, 2) := by decide +kernel
theorem dX12_worstBy_21 : decode cX12_worstBy 21 = .ok (.bipush 9, 2) := by decide +kernel
theorem dX12_worstBy_23 : decode cX12_worstBy 23 = .ok (.if_icmp .gt 60, 3) := by decide +kernel
theorem dX12_worstBy_26 : decode cX12_worstBy 26 = .ok (.iload 7, 2) := by decide +kernel
theorem dX12_worstBy_28 : decode cX12_worstBy 28 = .ok (.iload_n 2, 1) := by decide +kernel
theorem dX12_worstBy_29 : decode cX12_worstBy 29 = .ok (.iload 6, 2) := by decide +kernel
theorem dX12_worstBy_31 : decode cX12_worstBy 31 = .ok (.invokestatic 225, 3) := by decide +kernel
theorem dX12_worstBy_34 : decode cX12_worstBy 34 = .ok (.ifCond .eq 39, 3) := by decide +kernel
theorem dX12_worstBy_37 : decode cX12_worstBy 37 = .ok (.iload_n 2, 1) := by decide +kernel
theorem dX12_worstBy_38 : decode cX12_worstBy 38 = .ok (.iload 8, 2) := by decide +kernel
theorem dX12_worstBy_40 : decode cX12_worstBy 40 = .ok (.invokestatic 225, 3) := by decide +kernel
theorem dX12_worstBy_43 : decode cX12_worstBy 43 = .ok (.ifCond .eq 30, 3) := by decide +kernel
theorem dX12_worstBy_46 : decode cX12_worstBy 46 = .ok (.aload_n 0, 1) := by decide +kernel
theorem dX12_worstBy_47 : decode cX12_worstBy 47 = .ok (.iload_n 1, 1) := by decide +kernel
theorem dX12_worstBy_48 : decode cX12_worstBy 48 = .ok (.iload 6, 2) := by decide +kernel
theorem dX12_worstBy_50 : decode cX12_worstBy 50 = .ok (.iload_n 3, 1) := by decide +kernel
theorem dX12_worstBy_51 : decode cX12_worstBy 51 = .ok (.iload 4, 2) := by decide +kernel
theorem dX12_worstBy_53 : decode cX12_worstBy 53 = .ok (.invokevirtual 279, 3) := by decide +kernel
theorem dX12_worstBy_56 : decode cX12_worstBy 56 = .ok (.aload_n 0, 1) := by decide +kernel
theorem dX12_worstBy_57 : decode cX12_worstBy 57 = .ok (.iload_n 1, 1) := by decide +kernel
theorem dX12_worstBy_58 : decode cX12_worstBy 58 = .ok (.iload 8, 2) := by decide +kernel
theorem dX12_worstBy_60 : decode cX12_worstBy 60 = .ok (.iload_n 3, 1) := by decide +kernel
theorem dX12_worstBy_61 : decode cX12_worstBy 61 = .ok (.iload 4, 2) := by decide +kernel
theorem dX12_worstBy_63 : decode cX12_worstBy 63 = .ok (.invokevirtual 279, 3) := by decide +kernel
theorem dX12_worstBy_66 : decode cX12_worstBy 66 = .ok (.if_icmp .ne 7, 3) := by decide +kernel
theorem dX12_worstBy_69 : decode cX12_worstBy 69 = .ok (.iconst 1, 1) := by decide +kernel
theorem dX12_worstBy_70 : decode cX12_worstBy 70 = .ok (.goto 4, 3) := by decide +kernel
theorem dX12_worstBy_73 : decode cX12_worstBy 73 = .ok (.iconst 0, 1) := by decide +kernel
theorem dX12_worstBy_74 : decode cX12_worstBy 74 = .ok (.iadd, 1) := by decide +kernel
theorem dX12_worstBy_75 : decode cX12_worstBy 75 = .ok (.istore 7, 2) := by decide +kernel
theorem dX12_worstBy_77 : decode cX12_worstBy 77 = .ok (.iinc 8 1, 3) := by decide +kernel
theorem dX12_worstBy_80 : decode cX12_worstBy 80 = .ok (.goto (-61), 3) := by decide +kernel
theorem dX12_worstBy_83 : decode cX12_worstBy 83 = .ok (.iload 7, 2) := by decide +kernel
theorem dX12_worstBy_85 : decode cX12_worstBy 85 = .ok (.iload 5, 2) := by decide +kernel
theorem dX12_worstBy_87 : decode cX12_worstBy 87 = .ok (.if_icmp .le 8, 3) := by decide +kernel
theorem dX12_worstBy_90 : decode cX12_worstBy 90 = .ok (.iload 7, 2) := by decide +kernel
theorem dX12_worstBy_92 : decode cX12_worstBy 92 = .ok (.goto 5, 3) := by decide +kernel
theorem dX12_worstBy_95 : decode cX12_worstBy 95 = .ok (.iload 5, 2) := by decide +kernel
theorem dX12_worstBy_97 : decode cX12_worstBy 97 = .ok (.istore 5, 2) := by decide +kernel
theorem dX12_worstBy_99 : decode cX12_worstBy 99 = .ok (.iinc 6 1, 3) := by decide +kernel
theorem dX12_worstBy_102 : decode cX12_worstBy 102 = .ok (.goto (-96), 3) := by decide +kernel
theorem dX12_worstBy_105 : decode cX12_worstBy 105 = .ok (.iload 5, 2) := by decide +kernel
theorem dX12_worstBy_107 : decode cX12_worstBy 107 = .ok (.ireturn, 1) := by decide +kernel
set_option maxRecDepth 20000 in
theorem ggX12_askOf_X12_liesBits : GoodIn wsX12_askOf wsX12_liesBits := goodIn_r _ [8, 9, 10, 11, 12, 13, 14, 15, 16, 7, 17, 18, 19, 20, 21, 22, 23, 24, 25, 26, 27, 28, 29, 37, 38, 39, 40, 41, 42, 43, 44, 45, 46, 47, 48, 49, 50, 51, 52, 53, 54, 55, 56, 57, 58, 59, 60, 61, 62, 63, 64, 65, 66, 67, 68, 69, 70, 71, 72, 73, 74, 75, 76, 77, 78, 79, 80, 81, 82, 83, 84, 85] (by decide +kernel) (by decide +kernel)
set_option maxRecDepth 20000 in
theorem gX12_askOf_X12_liesBits : GoodIn wsX12_askOf (wsV RX12 175 RX12 yX12_liesBits wsX12_liesBits) := goodIn_app (goodIn_of _ (by decide +kernel)) ggX12_askOf_X12_liesBits
set_option maxRecDepth 20000 in
theorem ggX12_askOf_X12_worstBy : GoodIn wsX12_askOf wsX12_worstBy := goodIn_r _ [33, 34, 35, 7, 36, 14, 15, 16, 17, 18, 19, 20, 21, 22, 23, 24, 25, 26, 27, 28, 29, 37, 38, 39, 40, 41, 42, 43, 44, 45, 46, 47, 48, 49, 50, 51, 52, 53, 54, 55, 56, 57, 58, 59, 60, 61, 62, 63, 64, 65, 66, 67, 68, 69, 70, 71, 72, 73, 74, 75, 76, 77, 78, 79, 80, 81, 82, 83, 84, 85] (by decide +kernel) (by decide +kernel)
set_option maxRecDepth 20000 in
theorem gX12_askOf_X12_worstBy : GoodIn wsX12_askOf (wsV RX12 282 RX12 yX12_worstBy wsX12_worstBy) := goodIn_app (goodIn_of _ (by decide +kernel)) ggX12_askOf_X12_worstBy
theorem dX12_askOf_0 : decode cX12_askOf 0 = .ok (.aload_n 0, 1) := by decide +kernel
theorem dX12_askOf_1 : decode cX12_askOf 1 = .ok (.iload_n 1, 1) := by decide +kernel
theorem dX12_askOf_2 : decode cX12_askOf 2 = .ok (.invokevirtual 175, 3) := by decide +kernel
theorem dX12_askOf_5 : decode cX12_askOf 5 = .ok (.istore_n 2, 1) := by decide +kernel
theorem dX12_askOf_6 : decode cX12_askOf 6 = .ok (.iconst (-1), 1) := by decide +kernel
theorem dX12_askOf_7 : decode cX12_askOf 7 = .ok (.istore_n 3, 1) := by decide +kernel
theorem dX12_askOf_8 : decode cX12_askOf 8 = .ok (.ldc 207, 2) := by decide +kernel
theorem dX12_askOf_10 : decode cX12_askOf 10 = .ok (.istore 4, 2) := by decide +kernel
theorem dX12_askOf_12 : decode cX12_askOf 12 = .ok (.iconst 0, 1) := by decide +kernel
theorem dX12_askOf_13 : decode cX12_askOf 13 = .ok (.istore 5, 2) := by decide +kernel
theorem dX12_askOf_15 : decode cX12_askOf 15 = .ok (.iload 5, 2) := by decide +kernel
theorem dX12_askOf_17 : decode cX12_askOf 17 = .ok (.aload_n 0, 1) := by decide +kernel
theorem dX12_askOf_18 : decode cX12_askOf 18 = .ok (.getfield 153, 3) := by decide +kernel
theorem dX12_askOf_21 : decode cX12_askOf 21 = .ok (.if_icmp .ge 92, 3) := by decide +kernel
theorem dX12_askOf_24 : decode cX12_askOf 24 = .ok (.iload_n 2, 1) := by decide +kernel
theorem dX12_askOf_25 : decode cX12_askOf 25 = .ok (.ifCond .eq 88, 3) := by decide +kernel
theorem dX12_askOf_28 : decode cX12_askOf 28 = .ok (.iconst (-1), 1) := by decide +kernel
theorem dX12_askOf_29 : decode cX12_askOf 29 = .ok (.istore 6, 2) := by decide +kernel
theorem dX12_askOf_31 : decode cX12_askOf 31 = .ok (.iload 6, 2) := by decide +kernel
theorem dX12_askOf_33 : decode cX12_askOf 33 = .ok (.aload_n 0, 1) := by decide +kernel
theorem dX12_askOf_34 : decode cX12_askOf 34 = .ok (.getfield 156, 3) := by decide +kernel
theorem dX12_askOf_37 : decode cX12_askOf 37 = .ok (.if_icmp .ge 70, 3) := by decide +kernel
theorem dX12_askOf_40 : decode cX12_askOf 40 = .ok (.iload 6, 2) := by decide +kernel
theorem dX12_askOf_42 : decode cX12_askOf 42 = .ok (.iload_n 1, 1) := by decide +kernel
theorem dX12_askOf_43 : decode cX12_askOf 43 = .ok (.if_icmp .ne 8, 3) := by decide +kernel
theorem dX12_askOf_46 : decode cX12_askOf 46 = .ok (.ldc 207, 2) := by decide +kernel
theorem dX12_askOf_48 : decode cX12_askOf 48 = .ok (.goto 13, 3) := by decide +kernel
theorem dX12_askOf_51 : decode cX12_askOf 51 = .ok (.aload_n 0, 1) := by decide +kernel
theorem dX12_askOf_52 : decode cX12_askOf 52 = .ok (.iload_n 1, 1) := by decide +kernel
theorem dX12_askOf_53 : decode cX12_askOf 53 = .ok (.iload_n 2, 1) := by decide +kernel
theorem dX12_askOf_54 : decode cX12_askOf 54 = .ok (.iload 5, 2) := by decide +kernel
theorem dX12_askOf_56 : decode cX12_askOf 56 = .ok (.iload 6, 2) := by decide +kernel
theorem dX12_askOf_58 : decode cX12_askOf 58 = .ok (.invokevirtual 282, 3) := by decide +kernel
theorem dX12_askOf_61 : decode cX12_askOf 61 = .ok (.istore 7, 2) := by decide +kernel
theorem dX12_askOf_63 : decode cX12_askOf 63 = .ok (.iload 7, 2) := by decide +kernel
theorem dX12_askOf_65 : decode cX12_askOf 65 = .ok (.iload 4, 2) := by decide +kernel
theorem dX12_askOf_67 : decode cX12_askOf 67 = .ok (.if_icmp .ge 16, 3) := by decide +kernel
theorem dX12_askOf_70 : decode cX12_askOf 70 = .ok (.bipush 10, 2) := by decide +kernel
theorem dX12_askOf_72 : decode cX12_askOf 72 = .ok (.iload 5, 2) := by decide +kernel
theorem dX12_askOf_74 : decode cX12_askOf 74 = .ok (.imul, 1) := by decide +kernel
theorem dX12_askOf_75 : decode cX12_askOf 75 = .ok (.iload 6, 2) := by decide +kernel
theorem dX12_askOf_77 : decode cX12_askOf 77 = .ok (.iadd, 1) := by decide +kernel
theorem dX12_askOf_78 : decode cX12_askOf 78 = .ok (.iconst 1, 1) := by decide +kernel
theorem dX12_askOf_79 : decode cX12_askOf 79 = .ok (.iadd, 1) := by decide +kernel
theorem dX12_askOf_80 : decode cX12_askOf 80 = .ok (.goto 4, 3) := by decide +kernel
theorem dX12_askOf_83 : decode cX12_askOf 83 = .ok (.iload_n 3, 1) := by decide +kernel
theorem dX12_askOf_84 : decode cX12_askOf 84 = .ok (.istore_n 3, 1) := by decide +kernel
theorem dX12_askOf_85 : decode cX12_askOf 85 = .ok (.iload 7, 2) := by decide +kernel
theorem dX12_askOf_87 : decode cX12_askOf 87 = .ok (.iload 4, 2) := by decide +kernel
theorem dX12_askOf_89 : decode cX12_askOf 89 = .ok (.if_icmp .ge 8, 3) := by decide +kernel
theorem dX12_askOf_92 : decode cX12_askOf 92 = .ok (.iload 7, 2) := by decide +kernel
theorem dX12_askOf_94 : decode cX12_askOf 94 = .ok (.goto 5, 3) := by decide +kernel
theorem dX12_askOf_97 : decode cX12_askOf 97 = .ok (.iload 4, 2) := by decide +kernel
theorem dX12_askOf_99 : decode cX12_askOf 99 = .ok (.istore 4, 2) := by decide +kernel
theorem dX12_askOf_101 : decode cX12_askOf 101 = .ok (.iinc 6 1, 3) := by decide +kernel
theorem dX12_askOf_104 : decode cX12_askOf 104 = .ok (.goto (-73), 3) := by decide +kernel
theorem dX12_askOf_107 : decode cX12_askOf 107 = .ok (.iinc 5 1, 3) := by decide +kernel
theorem dX12_askOf_110 : decode cX12_askOf 110 = .ok (.goto (-95), 3) := by decide +kernel
theorem dX12_askOf_113 : decode cX12_askOf 113 = .ok (.iload_n 3, 1) := by decide +kernel
theorem dX12_askOf_114 : decode cX12_askOf 114 = .ok (.ireturn, 1) := by decide +kernel
theorem dX12_draw_0 : decode cX12_draw 0 = .ok (.aload_n 0, 1) := by decide +kernel
theorem dX12_draw_1 : decode cX12_draw 1 = .ok (.ldc2_w 285, 3) := by decide +kernel
theorem dX12_draw_4 : decode cX12_draw 4 = .ok (.aload_n 0, 1) := by decide +kernel
theorem dX12_draw_5 : decode cX12_draw 5 = .ok (.getfield 287, 3) := by decide +kernel
theorem dX12_draw_8 : decode cX12_draw 8 = .ok (.lmul, 1) := by decide +kernel
theorem dX12_draw_9 : decode cX12_draw 9 = .ok (.ldc2_w 291, 3) := by decide +kernel
theorem dX12_draw_12 : decode cX12_draw 12 = .ok (.ladd, 1) := by decide +kernel
theorem dX12_draw_13 : decode cX12_draw 13 = .ok (.ldc2_w 293, 3) := by decide +kernel
theorem dX12_draw_16 : decode cX12_draw 16 = .ok (.land, 1) := by decide +kernel
theorem dX12_draw_17 : decode cX12_draw 17 = .ok (.putfield 287, 3) := by decide +kernel
theorem dX12_draw_20 : decode cX12_draw 20 = .ok (.aload_n 0, 1) := by decide +kernel
theorem dX12_draw_21 : decode cX12_draw 21 = .ok (.getfield 287, 3) := by decide +kernel
theorem dX12_draw_24 : decode cX12_draw 24 = .ok (.ldc2_w 295, 3) := by decide +kernel
theorem dX12_draw_27 : decode cX12_draw 27 = .ok (.ldiv, 1) := by decide +kernel
theorem dX12_draw_28 : decode cX12_draw 28 = .ok (.iload_n 1, 1) := by decide +kernel
theorem dX12_draw_29 : decode cX12_draw 29 = .ok (.i2l, 1) := by decide +kernel
theorem dX12_draw_30 : decode cX12_draw 30 = .ok (.lrem, 1) := by decide +kernel
theorem dX12_draw_31 : decode cX12_draw 31 = .ok (.l2i, 1) := by decide +kernel
theorem dX12_draw_32 : decode cX12_draw 32 = .ok (.ireturn, 1) := by decide +kernel
set_option maxRecDepth 20000 in
theorem ggX12_passageAt_X12_endsAt : GoodIn wsX12_passageAt wsX12_endsAt := goodIn_r _ [5, 6, 7, 8, 9, 10, 11, 12, 13, 14, 15, 16, 17, 18, 19, 20, 21, 22, 23, 24, 25, 26, 27, 28, 29, 30, 31, 32, 33, 34, 35, 36, 37, 38, 39, 40, 41, 42, 43, 44, 45, 46, 47, 48, 49, 50, 51, 52, 53, 54, 55, 56] (by decide +kernel) (by decide +kernel)
set_option maxRecDepth 20000 in
theorem gX12_passageAt_X12_endsAt : GoodIn wsX12_passageAt (wsV RX12 198 RX12 yX12_endsAt wsX12_endsAt) := goodIn_app (goodIn_of _ (by decide +kernel)) ggX12_passageAt_X12_endsAt
theorem dX12_passageAt_0 : decode cX12_passageAt 0 = .ok (.iload_n 2, 1) := by decide +kernel
theorem dX12_passageAt_1 : decode cX12_passageAt 1 = .ok (.istore_n 3, 1) := by decide +kernel
theorem dX12_passageAt_2 : decode cX12_passageAt 2 = .ok (.iconst 0, 1) := by decide +kernel
theorem dX12_passageAt_3 : decode cX12_passageAt 3 = .ok (.istore 4, 2) := by decide +kernel
theorem dX12_passageAt_5 : decode cX12_passageAt 5 = .ok (.aload_n 0, 1) := by decide +kernel
theorem dX12_passageAt_6 : decode cX12_passageAt 6 = .ok (.iload 4, 2) := by decide +kernel
theorem dX12_passageAt_8 : decode cX12_passageAt 8 = .ok (.iload_n 1, 1) := by decide +kernel
theorem dX12_passageAt_9 : decode cX12_passageAt 9 = .ok (.invokevirtual 198, 3) := by decide +kernel
theorem dX12_passageAt_12 : decode cX12_passageAt 12 = .ok (.ifCond .eq 7, 3) := by decide +kernel
theorem dX12_passageAt_15 : decode cX12_passageAt 15 = .ok (.iload_n 3, 1) := by decide +kernel
theorem dX12_passageAt_16 : decode cX12_passageAt 16 = .ok (.ifCond .le 27, 3) := by decide +kernel
theorem dX12_passageAt_19 : decode cX12_passageAt 19 = .ok (.iload_n 3, 1) := by decide +kernel
theorem dX12_passageAt_20 : decode cX12_passageAt 20 = .ok (.aload_n 0, 1) := by decide +kernel
theorem dX12_passageAt_21 : decode cX12_passageAt 21 = .ok (.iload 4, 2) := by decide +kernel
theorem dX12_passageAt_23 : decode cX12_passageAt 23 = .ok (.iload_n 1, 1) := by decide +kernel
theorem dX12_passageAt_24 : decode cX12_passageAt 24 = .ok (.invokevirtual 198, 3) := by decide +kernel
theorem dX12_passageAt_27 : decode cX12_passageAt 27 = .ok (.ifCond .eq 7, 3) := by decide +kernel
theorem dX12_passageAt_30 : decode cX12_passageAt 30 = .ok (.iconst 1, 1) := by decide +kernel
theorem dX12_passageAt_31 : decode cX12_passageAt 31 = .ok (.goto 4, 3) := by decide +kernel
theorem dX12_passageAt_34 : decode cX12_passageAt 34 = .ok (.iconst 0, 1) := by decide +kernel
theorem dX12_passageAt_35 : decode cX12_passageAt 35 = .ok (.isub, 1) := by decide +kernel
theorem dX12_passageAt_36 : decode cX12_passageAt 36 = .ok (.istore_n 3, 1) := by decide +kernel
theorem dX12_passageAt_37 : decode cX12_passageAt 37 = .ok (.iinc 4 1, 3) := by decide +kernel
theorem dX12_passageAt_40 : decode cX12_passageAt 40 = .ok (.goto (-35), 3) := by decide +kernel
theorem dX12_passageAt_43 : decode cX12_passageAt 43 = .ok (.iload 4, 2) := by decide +kernel
theorem dX12_passageAt_45 : decode cX12_passageAt 45 = .ok (.ireturn, 1) := by decide +kernel
theorem dX12_inRoom_0 : decode cX12_inRoom 0 = .ok (.iconst 0, 1) := by decide +kernel
theorem dX12_inRoom_1 : decode cX12_inRoom 1 = .ok (.istore_n 2, 1) := by decide +kernel
theorem dX12_inRoom_2 : decode cX12_inRoom 2 = .ok (.iconst 0, 1) := by decide +kernel
theorem dX12_inRoom_3 : decode cX12_inRoom 3 = .ok (.istore_n 3, 1) := by decide +kernel
theorem dX12_inRoom_4 : decode cX12_inRoom 4 = .ok (.iload_n 3, 1) := by decide +kernel
theorem dX12_inRoom_5 : decode cX12_inRoom 5 = .ok (.aload_n 0, 1) := by decide +kernel
theorem dX12_inRoom_6 : decode cX12_inRoom 6 = .ok (.getfield 156, 3) := by decide +kernel
theorem dX12_inRoom_9 : decode cX12_inRoom 9 = .ok (.if_icmp .ge 27, 3) := by decide +kernel
theorem dX12_inRoom_12 : decode cX12_inRoom 12 = .ok (.iload_n 2, 1) := by decide +kernel
theorem dX12_inRoom_13 : decode cX12_inRoom 13 = .ok (.aload_n 0, 1) := by decide +kernel
theorem dX12_inRoom_14 : decode cX12_inRoom 14 = .ok (.getfield 28, 3) := by decide +kernel
theorem dX12_inRoom_17 : decode cX12_inRoom 17 = .ok (.iload_n 3, 1) := by decide +kernel
theorem dX12_inRoom_18 : decode cX12_inRoom 18 = .ok (.iaload, 1) := by decide +kernel
theorem dX12_inRoom_19 : decode cX12_inRoom 19 = .ok (.iload_n 1, 1) := by decide +kernel
theorem dX12_inRoom_20 : decode cX12_inRoom 20 = .ok (.if_icmp .ne 7, 3) := by decide +kernel
theorem dX12_inRoom_23 : decode cX12_inRoom 23 = .ok (.iconst 1, 1) := by decide +kernel
theorem dX12_inRoom_24 : decode cX12_inRoom 24 = .ok (.goto 4, 3) := by decide +kernel
theorem dX12_inRoom_27 : decode cX12_inRoom 27 = .ok (.iconst 0, 1) := by decide +kernel
theorem dX12_inRoom_28 : decode cX12_inRoom 28 = .ok (.iadd, 1) := by decide +kernel
theorem dX12_inRoom_29 : decode cX12_inRoom 29 = .ok (.istore_n 2, 1) := by decide +kernel
theorem dX12_inRoom_30 : decode cX12_inRoom 30 = .ok (.iinc 3 1, 3) := by decide +kernel
theorem dX12_inRoom_33 : decode cX12_inRoom 33 = .ok (.goto (-29), 3) := by decide +kernel
theorem dX12_inRoom_36 : decode cX12_inRoom 36 = .ok (.iload_n 2, 1) := by decide +kernel
theorem dX12_inRoom_37 : decode cX12_inRoom 37 = .ok (.ireturn, 1) := by decide +kernel
set_option maxRecDepth 20000 in
theorem ggX12_daysNow_X12_draw : GoodIn wsX12_daysNow wsX12_draw := goodIn_r _ [11, 12, 5, 13, 14, 15, 46, 47, 48, 49, 50, 51, 52, 53, 54, 55, 56, 57, 58, 59, 60, 61, 62, 63, 64, 65, 66, 67, 68, 69, 70, 71, 72, 73, 74, 75, 76, 77, 78, 79, 80, 81, 82, 83, 84, 85, 86, 87, 88, 89, 90, 91, 92, 93, 94] (by decide +kernel) (by decide +kernel)
set_option maxRecDepth 20000 in
theorem gX12_daysNow_X12_draw : GoodIn wsX12_daysNow (wsV RX12 297 RX12 yX12_draw wsX12_draw) := goodIn_app (goodIn_of _ (by decide +kernel)) ggX12_daysNow_X12_draw
set_option maxRecDepth 20000 in
theorem ggX12_daysNow_X12_ending : GoodIn wsX12_daysNow wsX12_ending := goodIn_r _ [19, 20, 21, 22, 23, 10, 24, 25, 26, 46, 47, 48, 49, 50, 51, 52, 53, 54, 55, 56, 57, 58, 59, 60, 61, 62, 63, 64, 65, 66, 67, 68, 69, 70, 71, 72, 73, 74, 75, 76, 77, 78, 79, 80, 81, 82, 83, 84, 85, 86, 87, 88, 89, 90, 91, 92, 93, 94] (by decide +kernel) (by decide +kernel)
set_option maxRecDepth 20000 in
theorem gX12_daysNow_X12_ending : GoodIn wsX12_daysNow (wsV RX12 256 RX12 yX12_ending wsX12_ending) := goodIn_app (goodIn_of _ (by decide +kernel)) ggX12_daysNow_X12_ending
set_option maxRecDepth 20000 in
theorem ggX12_daysNow_X12_passageAt : GoodIn wsX12_daysNow wsX12_passageAt := goodIn_r _ [30, 21, 22, 23, 10, 24, 25, 26, 46, 47, 48, 49, 50, 51, 52, 53, 54, 55, 56, 57, 58, 59, 60, 61, 62, 63, 64, 65, 66, 67, 68, 69, 70, 71, 72, 73, 74, 75, 76, 77, 78, 79, 80, 81, 82, 83, 84, 85, 86, 87, 88, 89, 90, 91, 92, 93, 94] (by decide +kernel) (by decide +kernel)
set_option maxRecDepth 20000 in
theorem gX12_daysNow_X12_passageAt : GoodIn wsX12_daysNow (wsV RX12 300 RX12 yX12_passageAt wsX12_passageAt) := goodIn_app (goodIn_of _ (by decide +kernel)) ggX12_daysNow_X12_passageAt
set_option maxRecDepth 20000 in
theorem ggX12_daysNow_X12_alone : GoodIn wsX12_daysNow wsX12_alone := goodIn_r _ [34, 35, 36, 2, 37, 46, 47, 48, 49, 50, 51, 52, 53, 54, 55, 56, 57, 58, 59, 60, 61, 62, 63, 64, 65, 66, 67, 68, 69, 70, 71, 72, 73, 74, 75, 76, 77, 78, 79, 80, 81, 82, 83, 84, 85, 86, 87, 88, 89, 90, 91, 92, 93, 94] (by decide +kernel) (by decide +kernel)
set_option maxRecDepth 20000 in
theorem gX12_daysNow_X12_alone : GoodIn wsX12_daysNow (wsV RX12 172 RX12 yX12_alone wsX12_alone) := goodIn_app (goodIn_of _ (by decide +kernel)) ggX12_daysNow_X12_alone
set_option maxRecDepth 20000 in
theorem ggX12_daysNow_X12_beyond : GoodIn wsX12_daysNow wsX12_beyond := goodIn_r _ [41, 25, 26, 46, 47, 48, 49, 50, 51, 52, 53, 54, 55, 56, 57, 58, 59, 60, 61, 62, 63, 64, 65, 66, 67, 68, 69, 70, 71, 72, 73, 74, 75, 76, 77, 78, 79, 80, 81, 82, 83, 84, 85, 86, 87, 88, 89, 90, 91, 92, 93, 94] (by decide +kernel) (by decide +kernel)
set_option maxRecDepth 20000 in
theorem gX12_daysNow_X12_beyond : GoodIn wsX12_daysNow (wsV RX12 204 RX12 yX12_beyond wsX12_beyond) := goodIn_app (goodIn_of _ (by decide +kernel)) ggX12_daysNow_X12_beyond
set_option maxRecDepth 20000 in
theorem ggX12_daysNow_X12_inRoom : GoodIn wsX12_daysNow wsX12_inRoom := goodIn_r _ [45, 6, 4, 46, 47, 48, 49, 50, 51, 52, 53, 54, 55, 56, 57, 58, 59, 60, 61, 62, 63, 64, 65, 66, 67, 68, 69, 70, 71, 72, 73, 74, 75, 76, 77, 78, 79, 80, 81, 82, 83, 84, 85, 86, 87, 88, 89, 90, 91, 92, 93, 94] (by decide +kernel) (by decide +kernel)
set_option maxRecDepth 20000 in
theorem gX12_daysNow_X12_inRoom : GoodIn wsX12_daysNow (wsV RX12 303 RX12 yX12_inRoom wsX12_inRoom) := goodIn_app (goodIn_of _ (by decide +kernel)) ggX12_daysNow_X12_inRoom
theorem dX12_daysNow_0 : decode cX12_daysNow 0 = .ok (.iconst 0, 1) := by decide +kernel
theorem dX12_daysNow_1 : decode cX12_daysNow 1 = .ok (.istore 4, 2) := by decide +kernel
theorem dX12_daysNow_3 : decode cX12_daysNow 3 = .ok (.iload 4, 2) := by decide +kernel
theorem dX12_daysNow_5 : decode cX12_daysNow 5 = .ok (.iconst 5, 1) := by decide +kernel
theorem dX12_daysNow_6 : decode cX12_daysNow 6 = .ok (.if_icmp .ge 37, 3) := by decide +kernel
theorem dX12_daysNow_9 : decode cX12_daysNow 9 = .ok (.aload_n 0, 1) := by decide +kernel
theorem dX12_daysNow_10 : decode cX12_daysNow 10 = .ok (.getfield 75, 3) := by decide +kernel
theorem dX12_daysNow_13 : decode cX12_daysNow 13 = .ok (.iload 4, 2) := by decide +kernel
theorem dX12_daysNow_15 : decode cX12_daysNow 15 = .ok (.aload_n 0, 1) := by decide +kernel
theorem dX12_daysNow_16 : decode cX12_daysNow 16 = .ok (.getfield 25, 3) := by decide +kernel
theorem dX12_daysNow_19 : decode cX12_daysNow 19 = .ok (.iload 4, 2) := by decide +kernel
theorem dX12_daysNow_21 : decode cX12_daysNow 21 = .ok (.iaload, 1) := by decide +kernel
theorem dX12_daysNow_22 : decode cX12_daysNow 22 = .ok (.iastore, 1) := by decide +kernel
theorem dX12_daysNow_23 : decode cX12_daysNow 23 = .ok (.aload_n 0, 1) := by decide +kernel
theorem dX12_daysNow_24 : decode cX12_daysNow 24 = .ok (.getfield 78, 3) := by decide +kernel
theorem dX12_daysNow_27 : decode cX12_daysNow 27 = .ok (.iload 4, 2) := by decide +kernel
theorem dX12_daysNow_29 : decode cX12_daysNow 29 = .ok (.aload_n 0, 1) := by decide +kernel
theorem dX12_daysNow_30 : decode cX12_daysNow 30 = .ok (.getfield 28, 3) := by decide +kernel
theorem dX12_daysNow_33 : decode cX12_daysNow 33 = .ok (.iload 4, 2) := by decide +kernel
theorem dX12_daysNow_35 : decode cX12_daysNow 35 = .ok (.iaload, 1) := by decide +kernel
theorem dX12_daysNow_36 : decode cX12_daysNow 36 = .ok (.iastore, 1) := by decide +kernel
theorem dX12_daysNow_37 : decode cX12_daysNow 37 = .ok (.iinc 4 1, 3) := by decide +kernel
theorem dX12_daysNow_40 : decode cX12_daysNow 40 = .ok (.goto (-37), 3) := by decide +kernel
theorem dX12_daysNow_43 : decode cX12_daysNow 43 = .ok (.aload_n 0, 1) := by decide +kernel
theorem dX12_daysNow_44 : decode cX12_daysNow 44 = .ok (.iload_n 2, 1) := by decide +kernel
theorem dX12_daysNow_45 : decode cX12_daysNow 45 = .ok (.i2l, 1) := by decide +kernel
theorem dX12_daysNow_46 : decode cX12_daysNow 46 = .ok (.putfield 287, 3) := by decide +kernel
theorem dX12_daysNow_49 : decode cX12_daysNow 49 = .ok (.iconst 0, 1) := by decide +kernel
theorem dX12_daysNow_50 : decode cX12_daysNow 50 = .ok (.istore 4, 2) := by decide +kernel
theorem dX12_daysNow_52 : decode cX12_daysNow 52 = .ok (.iconst 0, 1) := by decide +kernel
theorem dX12_daysNow_53 : decode cX12_daysNow 53 = .ok (.istore 5, 2) := by decide +kernel
theorem dX12_daysNow_55 : decode cX12_daysNow 55 = .ok (.iload 5, 2) := by decide +kernel
theorem dX12_daysNow_57 : decode cX12_daysNow 57 = .ok (.iload_n 1, 1) := by decide +kernel
theorem dX12_daysNow_58 : decode cX12_daysNow 58 = .ok (.if_icmp .ge 124, 3) := by decide +kernel
theorem dX12_daysNow_61 : decode cX12_daysNow 61 = .ok (.aload_n 0, 1) := by decide +kernel
theorem dX12_daysNow_62 : decode cX12_daysNow 62 = .ok (.aload_n 0, 1) := by decide +kernel
theorem dX12_daysNow_63 : decode cX12_daysNow 63 = .ok (.getfield 156, 3) := by decide +kernel
theorem dX12_daysNow_66 : decode cX12_daysNow 66 = .ok (.invokevirtual 297, 3) := by decide +kernel
theorem dX12_daysNow_69 : decode cX12_daysNow 69 = .ok (.istore 6, 2) := by decide +kernel
theorem dX12_daysNow_71 : decode cX12_daysNow 71 = .ok (.aload_n 0, 1) := by decide +kernel
theorem dX12_daysNow_72 : decode cX12_daysNow 72 = .ok (.aload_n 0, 1) := by decide +kernel
theorem dX12_daysNow_73 : decode cX12_daysNow 73 = .ok (.getfield 28, 3) := by decide +kernel
theorem dX12_daysNow_76 : decode cX12_daysNow 76 = .ok (.iload 6, 2) := by decide +kernel
theorem dX12_daysNow_78 : decode cX12_daysNow 78 = .ok (.iaload, 1) := by decide +kernel
theorem dX12_daysNow_79 : decode cX12_daysNow 79 = .ok (.invokevirtual 256, 3) := by decide +kernel
theorem dX12_daysNow_82 : decode cX12_daysNow 82 = .ok (.istore 7, 2) := by decide +kernel
theorem dX12_daysNow_84 : decode cX12_daysNow 84 = .ok (.iload 7, 2) := by decide +kernel
theorem dX12_daysNow_86 : decode cX12_daysNow 86 = .ok (.ifCond .le 55, 3) := by decide +kernel
theorem dX12_daysNow_89 : decode cX12_daysNow 89 = .ok (.aload_n 0, 1) := by decide +kernel
theorem dX12_daysNow_90 : decode cX12_daysNow 90 = .ok (.aload_n 0, 1) := by decide +kernel
theorem dX12_daysNow_91 : decode cX12_daysNow 91 = .ok (.getfield 28, 3) := by decide +kernel
theorem dX12_daysNow_94 : decode cX12_daysNow 94 = .ok (.iload 6, 2) := by decide +kernel
theorem dX12_daysNow_96 : decode cX12_daysNow 96 = .ok (.iaload, 1) := by decide +kernel
theorem dX12_daysNow_97 : decode cX12_daysNow 97 = .ok (.aload_n 0, 1) := by decide +kernel
theorem dX12_daysNow_98 : decode cX12_daysNow 98 = .ok (.iload 7, 2) := by decide +kernel
theorem dX12_daysNow_100 : decode cX12_daysNow 100 = .ok (.invokevirtual 297, 3) := by decide +kernel
theorem dX12_daysNow_103 : decode cX12_daysNow 103 = .ok (.invokevirtual 300, 3) := by decide +kernel
theorem dX12_daysNow_106 : decode cX12_daysNow 106 = .ok (.istore 8, 2) := by decide +kernel
theorem dX12_daysNow_108 : decode cX12_daysNow 108 = .ok (.iload 4, 2) := by decide +kernel
theorem dX12_daysNow_110 : decode cX12_daysNow 110 = .ok (.aload_n 0, 1) := by decide +kernel
theorem dX12_daysNow_111 : decode cX12_daysNow 111 = .ok (.iload 6, 2) := by decide +kernel
theorem dX12_daysNow_113 : decode cX12_daysNow 113 = .ok (.iload 8, 2) := by decide +kernel
theorem dX12_daysNow_115 : decode cX12_daysNow 115 = .ok (.invokevirtual 172, 3) := by decide +kernel
theorem dX12_daysNow_118 : decode cX12_daysNow 118 = .ok (.iadd, 1) := by decide +kernel
theorem dX12_daysNow_119 : decode cX12_daysNow 119 = .ok (.istore 4, 2) := by decide +kernel
theorem dX12_daysNow_121 : decode cX12_daysNow 121 = .ok (.aload_n 0, 1) := by decide +kernel
theorem dX12_daysNow_122 : decode cX12_daysNow 122 = .ok (.getfield 28, 3) := by decide +kernel
theorem dX12_daysNow_125 : decode cX12_daysNow 125 = .ok (.iload 6, 2) := by decide +kernel
theorem dX12_daysNow_127 : decode cX12_daysNow 127 = .ok (.aload_n 0, 1) := by decide +kernel
theorem dX12_daysNow_128 : decode cX12_daysNow 128 = .ok (.iload 8, 2) := by decide +kernel
theorem dX12_daysNow_130 : decode cX12_daysNow 130 = .ok (.aload_n 0, 1) := by decide +kernel
theorem dX12_daysNow_131 : decode cX12_daysNow 131 = .ok (.getfield 28, 3) := by decide +kernel
theorem dX12_daysNow_134 : decode cX12_daysNow 134 = .ok (.iload 6, 2) := by decide +kernel
theorem dX12_daysNow_136 : decode cX12_daysNow 136 = .ok (.iaload, 1) := by decide +kernel
theorem dX12_daysNow_137 : decode cX12_daysNow 137 = .ok (.invokevirtual 204, 3) := by decide +kernel
theorem dX12_daysNow_140 : decode cX12_daysNow 140 = .ok (.iastore, 1) := by decide +kernel
theorem dX12_daysNow_141 : decode cX12_daysNow 141 = .ok (.aload_n 0, 1) := by decide +kernel
theorem dX12_daysNow_142 : decode cX12_daysNow 142 = .ok (.getfield 25, 3) := by decide +kernel
theorem dX12_daysNow_145 : decode cX12_daysNow 145 = .ok (.iload 6, 2) := by decide +kernel
theorem dX12_daysNow_147 : decode cX12_daysNow 147 = .ok (.dup2, 1) := by decide +kernel
theorem dX12_daysNow_148 : decode cX12_daysNow 148 = .ok (.iaload, 1) := by decide +kernel
theorem dX12_daysNow_149 : decode cX12_daysNow 149 = .ok (.aload_n 0, 1) := by decide +kernel
theorem dX12_daysNow_150 : decode cX12_daysNow 150 = .ok (.iconst 4, 1) := by decide +kernel
theorem dX12_daysNow_151 : decode cX12_daysNow 151 = .ok (.invokevirtual 297, 3) := by decide +kernel
theorem dX12_daysNow_154 : decode cX12_daysNow 154 = .ok (.ifCond .ne 19, 3) := by decide +kernel
theorem dX12_daysNow_157 : decode cX12_daysNow 157 = .ok (.aload_n 0, 1) := by decide +kernel
theorem dX12_daysNow_158 : decode cX12_daysNow 158 = .ok (.getfield 25, 3) := by decide +kernel
theorem dX12_daysNow_161 : decode cX12_daysNow 161 = .ok (.iload 6, 2) := by decide +kernel
theorem dX12_daysNow_163 : decode cX12_daysNow 163 = .ok (.iaload, 1) := by decide +kernel
theorem dX12_daysNow_164 : decode cX12_daysNow 164 = .ok (.bipush 9, 2) := by decide +kernel
theorem dX12_daysNow_166 : decode cX12_daysNow 166 = .ok (.if_icmp .ge 7, 3) := by decide +kernel
theorem dX12_daysNow_169 : decode cX12_daysNow 169 = .ok (.iconst 1, 1) := by decide +kernel
theorem dX12_daysNow_170 : decode cX12_daysNow 170 = .ok (.goto 4, 3) := by decide +kernel
theorem dX12_daysNow_173 : decode cX12_daysNow 173 = .ok (.iconst 0, 1) := by decide +kernel
theorem dX12_daysNow_174 : decode cX12_daysNow 174 = .ok (.iadd, 1) := by decide +kernel
theorem dX12_daysNow_175 : decode cX12_daysNow 175 = .ok (.iastore, 1) := by decide +kernel
theorem dX12_daysNow_176 : decode cX12_daysNow 176 = .ok (.iinc 5 1, 3) := by decide +kernel
theorem dX12_daysNow_179 : decode cX12_daysNow 179 = .ok (.goto (-124), 3) := by decide +kernel
theorem dX12_daysNow_182 : decode cX12_daysNow 182 = .ok (.aload_n 0, 1) := by decide +kernel
theorem dX12_daysNow_183 : decode cX12_daysNow 183 = .ok (.iconst 0, 1) := by decide +kernel
theorem dX12_daysNow_184 : decode cX12_daysNow 184 = .ok (.invokevirtual 303, 3) := by decide +kernel
theorem dX12_daysNow_187 : decode cX12_daysNow 187 = .ok (.istore 5, 2) := by decide +kernel
theorem dX12_daysNow_189 : decode cX12_daysNow 189 = .ok (.iconst 0, 1) := by decide +kernel
theorem dX12_daysNow_190 : decode cX12_daysNow 190 = .ok (.istore 6, 2) := by decide +kernel
theorem dX12_daysNow_192 : decode cX12_daysNow 192 = .ok (.iload 6, 2) := by decide +kernel
theorem dX12_daysNow_194 : decode cX12_daysNow 194 = .ok (.iconst 5, 1) := by decide +kernel
theorem dX12_daysNow_195 : decode cX12_daysNow 195 = .ok (.if_icmp .ge 37, 3) := by decide +kernel
theorem dX12_daysNow_198 : decode cX12_daysNow 198 = .ok (.aload_n 0, 1) := by decide +kernel
theorem dX12_daysNow_199 : decode cX12_daysNow 199 = .ok (.getfield 25, 3) := by decide +kernel
theorem dX12_daysNow_202 : decode cX12_daysNow 202 = .ok (.iload 6, 2) := by decide +kernel
theorem dX12_daysNow_204 : decode cX12_daysNow 204 = .ok (.aload_n 0, 1) := by decide +kernel
theorem dX12_daysNow_205 : decode cX12_daysNow 205 = .ok (.getfield 75, 3) := by decide +kernel
theorem dX12_daysNow_208 : decode cX12_daysNow 208 = .ok (.iload 6, 2) := by decide +kernel
theorem dX12_daysNow_210 : decode cX12_daysNow 210 = .ok (.iaload, 1) := by decide +kernel
theorem dX12_daysNow_211 : decode cX12_daysNow 211 = .ok (.iastore, 1) := by decide +kernel
theorem dX12_daysNow_212 : decode cX12_daysNow 212 = .ok (.aload_n 0, 1) := by decide +kernel
theorem dX12_daysNow_213 : decode cX12_daysNow 213 = .ok (.getfield 28, 3) := by decide +kernel
theorem dX12_daysNow_216 : decode cX12_daysNow 216 = .ok (.iload 6, 2) := by decide +kernel
theorem dX12_daysNow_218 : decode cX12_daysNow 218 = .ok (.aload_n 0, 1) := by decide +kernel
theorem dX12_daysNow_219 : decode cX12_daysNow 219 = .ok (.getfield 78, 3) := by decide +kernel
theorem dX12_daysNow_222 : decode cX12_daysNow 222 = .ok (.iload 6, 2) := by decide +kernel
theorem dX12_daysNow_224 : decode cX12_daysNow 224 = .ok (.iaload, 1) := by decide +kernel
theorem dX12_daysNow_225 : decode cX12_daysNow 225 = .ok (.iastore, 1) := by decide +kernel
theorem dX12_daysNow_226 : decode cX12_daysNow 226 = .ok (.iinc 6 1, 3) := by decide +kernel
theorem dX12_daysNow_229 : decode cX12_daysNow 229 = .ok (.goto (-37), 3) := by decide +kernel
theorem dX12_daysNow_232 : decode cX12_daysNow 232 = .ok (.iload_n 3, 1) := by decide +kernel
theorem dX12_daysNow_233 : decode cX12_daysNow 233 = .ok (.ifCond .ne 8, 3) := by decide +kernel
theorem dX12_daysNow_236 : decode cX12_daysNow 236 = .ok (.iload 4, 2) := by decide +kernel
theorem dX12_daysNow_238 : decode cX12_daysNow 238 = .ok (.goto 18, 3) := by decide +kernel
theorem dX12_daysNow_241 : decode cX12_daysNow 241 = .ok (.iload_n 3, 1) := by decide +kernel
theorem dX12_daysNow_242 : decode cX12_daysNow 242 = .ok (.iconst 1, 1) := by decide +kernel
theorem dX12_daysNow_243 : decode cX12_daysNow 243 = .ok (.if_icmp .ne 8, 3) := by decide +kernel
theorem dX12_daysNow_246 : decode cX12_daysNow 246 = .ok (.iload 5, 2) := by decide +kernel
theorem dX12_daysNow_248 : decode cX12_daysNow 248 = .ok (.goto 8, 3) := by decide +kernel
theorem dX12_daysNow_251 : decode cX12_daysNow 251 = .ok (.aload_n 0, 1) := by decide +kernel
theorem dX12_daysNow_252 : decode cX12_daysNow 252 = .ok (.getfield 287, 3) := by decide +kernel
theorem dX12_daysNow_255 : decode cX12_daysNow 255 = .ok (.l2i, 1) := by decide +kernel
theorem dX12_daysNow_256 : decode cX12_daysNow 256 = .ok (.ireturn, 1) := by decide +kernel
set_option maxRecDepth 20000 in
theorem ggX12_days_X12_within : GoodIn wsX12_days wsX12_within := goodIn_r _ [5] (by decide +kernel) (by decide +kernel)
set_option maxRecDepth 20000 in
theorem gX12_days_X12_within : GoodIn wsX12_days (va_wsS RX12 108 yX12_within wsX12_within) := goodIn_app (goodIn_of _ (by decide +kernel)) ggX12_days_X12_within
set_option maxRecDepth 20000 in
theorem ggX12_days_X12_daysNow : GoodIn wsX12_days wsX12_daysNow := goodIn_r _ [9, 10, 11, 12, 13, 14, 1, 15, 16, 17, 4, 18, 19, 20, 21, 22, 23, 24, 25, 26, 27, 28, 29, 30, 31, 32, 33, 34, 35, 36, 37, 38, 39, 40, 41, 42, 43, 44, 45, 46, 47, 48, 49, 50, 51, 52, 53, 54, 55, 56, 57, 58, 59, 60, 61, 62, 63, 64, 65, 66, 67, 68, 69, 70, 71, 72, 73, 74, 75, 76, 77, 78, 79, 80, 81, 82, 83, 84, 85, 86, 87, 88, 89, 90, 91, 92, 93, 94, 95, 96, 97, 98, 99, 100, 101] (by decide +kernel) (by decide +kernel)
set_option maxRecDepth 20000 in
theorem gX12_days_X12_daysNow : GoodIn wsX12_days (wsV RX12 306 RX12 yX12_daysNow wsX12_daysNow) := goodIn_app (goodIn_of _ (by decide +kernel)) ggX12_days_X12_daysNow
theorem dX12_days_0 : decode cX12_days 0 = .ok (.iload_n 1, 1) := by decide +kernel
theorem dX12_days_1 : decode cX12_days 1 = .ok (.iconst 1, 1) := by decide +kernel
theorem dX12_days_2 : decode cX12_days 2 = .ok (.bipush 60, 2) := by decide +kernel
theorem dX12_days_4 : decode cX12_days 4 = .ok (.invokestatic 108, 3) := by decide +kernel
theorem dX12_days_7 : decode cX12_days 7 = .ok (.ifCond .eq 16, 3) := by decide +kernel
theorem dX12_days_10 : decode cX12_days 10 = .ok (.iload_n 2, 1) := by decide +kernel
theorem dX12_days_11 : decode cX12_days 11 = .ok (.ifCond .lt 12, 3) := by decide +kernel
theorem dX12_days_14 : decode cX12_days 14 = .ok (.iload_n 3, 1) := by decide +kernel
theorem dX12_days_15 : decode cX12_days 15 = .ok (.iconst 0, 1) := by decide +kernel
theorem dX12_days_16 : decode cX12_days 16 = .ok (.iconst 2, 1) := by decide +kernel
theorem dX12_days_17 : decode cX12_days 17 = .ok (.invokestatic 108, 3) := by decide +kernel
theorem dX12_days_20 : decode cX12_days 20 = .ok (.ifCond .ne 6, 3) := by decide +kernel
theorem dX12_days_23 : decode cX12_days 23 = .ok (.bipush (-102), 2) := by decide +kernel
theorem dX12_days_25 : decode cX12_days 25 = .ok (.ireturn, 1) := by decide +kernel
theorem dX12_days_26 : decode cX12_days 26 = .ok (.aload_n 0, 1) := by decide +kernel
theorem dX12_days_27 : decode cX12_days 27 = .ok (.getfield 156, 3) := by decide +kernel
theorem dX12_days_30 : decode cX12_days 30 = .ok (.ifCond .ne 8, 3) := by decide +kernel
theorem dX12_days_33 : decode cX12_days 33 = .ok (.bipush (-103), 2) := by decide +kernel
theorem dX12_days_35 : decode cX12_days 35 = .ok (.goto 10, 3) := by decide +kernel
theorem dX12_days_38 : decode cX12_days 38 = .ok (.aload_n 0, 1) := by decide +kernel
theorem dX12_days_39 : decode cX12_days 39 = .ok (.iload_n 1, 1) := by decide +kernel
theorem dX12_days_40 : decode cX12_days 40 = .ok (.iload_n 2, 1) := by decide +kernel
theorem dX12_days_41 : decode cX12_days 41 = .ok (.iload_n 3, 1) := by decide +kernel
theorem dX12_days_42 : decode cX12_days 42 = .ok (.invokevirtual 306, 3) := by decide +kernel
theorem dX12_days_45 : decode cX12_days 45 = .ok (.ireturn, 1) := by decide +kernel
theorem dX12_tookAll_0 : decode cX12_tookAll 0 = .ok (.iconst 0, 1) := by decide +kernel
theorem dX12_tookAll_1 : decode cX12_tookAll 1 = .ok (.istore_n 1, 1) := by decide +kernel
theorem dX12_tookAll_2 : decode cX12_tookAll 2 = .ok (.iconst 0, 1) := by decide +kernel
theorem dX12_tookAll_3 : decode cX12_tookAll 3 = .ok (.istore_n 2, 1) := by decide +kernel
theorem dX12_tookAll_4 : decode cX12_tookAll 4 = .ok (.iload_n 2, 1) := by decide +kernel
theorem dX12_tookAll_5 : decode cX12_tookAll 5 = .ok (.aload_n 0, 1) := by decide +kernel
theorem dX12_tookAll_6 : decode cX12_tookAll 6 = .ok (.getfield 156, 3) := by decide +kernel
theorem dX12_tookAll_9 : decode cX12_tookAll 9 = .ok (.if_icmp .ge 18, 3) := by decide +kernel
theorem dX12_tookAll_12 : decode cX12_tookAll 12 = .ok (.iload_n 1, 1) := by decide +kernel
theorem dX12_tookAll_13 : decode cX12_tookAll 13 = .ok (.aload_n 0, 1) := by decide +kernel
theorem dX12_tookAll_14 : decode cX12_tookAll 14 = .ok (.getfield 31, 3) := by decide +kernel
theorem dX12_tookAll_17 : decode cX12_tookAll 17 = .ok (.iload_n 2, 1) := by decide +kernel
theorem dX12_tookAll_18 : decode cX12_tookAll 18 = .ok (.iaload, 1) := by decide +kernel
theorem dX12_tookAll_19 : decode cX12_tookAll 19 = .ok (.iadd, 1) := by decide +kernel
theorem dX12_tookAll_20 : decode cX12_tookAll 20 = .ok (.istore_n 1, 1) := by decide +kernel
theorem dX12_tookAll_21 : decode cX12_tookAll 21 = .ok (.iinc 2 1, 3) := by decide +kernel
theorem dX12_tookAll_24 : decode cX12_tookAll 24 = .ok (.goto (-20), 3) := by decide +kernel
theorem dX12_tookAll_27 : decode cX12_tookAll 27 = .ok (.iload_n 1, 1) := by decide +kernel
theorem dX12_tookAll_28 : decode cX12_tookAll 28 = .ok (.ireturn, 1) := by decide +kernel
set_option maxRecDepth 20000 in
theorem ggX12_image_X12_tookAll : GoodIn wsX12_image wsX12_tookAll := goodIn_r _ [31, 1, 18, 32, 33, 34, 35, 36, 37, 38, 39, 40, 41, 42, 43, 44, 45, 46, 47, 48, 49, 50, 51, 52, 53, 54, 55, 56, 57, 58, 59, 60, 61, 62, 63, 64, 65, 66, 67, 68, 69, 70, 71, 72, 73, 74, 75, 76, 77, 78, 79, 80] (by decide +kernel) (by decide +kernel)
set_option maxRecDepth 20000 in
theorem gX12_image_X12_tookAll : GoodIn wsX12_image (wsV RX12 321 RX12 yX12_tookAll wsX12_tookAll) := goodIn_app (goodIn_of _ (by decide +kernel)) ggX12_image_X12_tookAll
theorem dX12_image_0 : decode cX12_image 0 = .ok (.aload_n 0, 1) := by decide +kernel
theorem dX12_image_1 : decode cX12_image 1 = .ok (.getfield 156, 3) := by decide +kernel
theorem dX12_image_4 : decode cX12_image 4 = .ok (.ifCond .ne 6, 3) := by decide +kernel
theorem dX12_image_7 : decode cX12_image 7 = .ok (.bipush (-103), 2) := by decide +kernel
theorem dX12_image_9 : decode cX12_image 9 = .ok (.ireturn, 1) := by decide +kernel
theorem dX12_image_10 : decode cX12_image 10 = .ok (.aload_n 0, 1) := by decide +kernel
theorem dX12_image_11 : decode cX12_image 11 = .ok (.iconst 1, 1) := by decide +kernel
theorem dX12_image_12 : decode cX12_image 12 = .ok (.putfield 309, 3) := by decide +kernel
theorem dX12_image_15 : decode cX12_image 15 = .ok (.aload_n 0, 1) := by decide +kernel
theorem dX12_image_16 : decode cX12_image 16 = .ok (.aload_n 0, 1) := by decide +kernel
theorem dX12_image_17 : decode cX12_image 17 = .ok (.getfield 162, 3) := by decide +kernel
theorem dX12_image_20 : decode cX12_image 20 = .ok (.putfield 312, 3) := by decide +kernel
theorem dX12_image_23 : decode cX12_image 23 = .ok (.aload_n 0, 1) := by decide +kernel
theorem dX12_image_24 : decode cX12_image 24 = .ok (.aload_n 0, 1) := by decide +kernel
theorem dX12_image_25 : decode cX12_image 25 = .ok (.getfield 159, 3) := by decide +kernel
theorem dX12_image_28 : decode cX12_image 28 = .ok (.putfield 315, 3) := by decide +kernel
theorem dX12_image_31 : decode cX12_image 31 = .ok (.aload_n 0, 1) := by decide +kernel
theorem dX12_image_32 : decode cX12_image 32 = .ok (.aload_n 0, 1) := by decide +kernel
theorem dX12_image_33 : decode cX12_image 33 = .ok (.getfield 165, 3) := by decide +kernel
theorem dX12_image_36 : decode cX12_image 36 = .ok (.putfield 318, 3) := by decide +kernel
theorem dX12_image_39 : decode cX12_image 39 = .ok (.iconst 0, 1) := by decide +kernel
theorem dX12_image_40 : decode cX12_image 40 = .ok (.istore_n 1, 1) := by decide +kernel
theorem dX12_image_41 : decode cX12_image 41 = .ok (.iload_n 1, 1) := by decide +kernel
theorem dX12_image_42 : decode cX12_image 42 = .ok (.bipush 7, 2) := by decide +kernel
theorem dX12_image_44 : decode cX12_image 44 = .ok (.if_icmp .ge 21, 3) := by decide +kernel
theorem dX12_image_47 : decode cX12_image 47 = .ok (.aload_n 0, 1) := by decide +kernel
theorem dX12_image_48 : decode cX12_image 48 = .ok (.getfield 81, 3) := by decide +kernel
theorem dX12_image_51 : decode cX12_image 51 = .ok (.iload_n 1, 1) := by decide +kernel
theorem dX12_image_52 : decode cX12_image 52 = .ok (.aload_n 0, 1) := by decide +kernel
theorem dX12_image_53 : decode cX12_image 53 = .ok (.getfield 16, 3) := by decide +kernel
theorem dX12_image_56 : decode cX12_image 56 = .ok (.iload_n 1, 1) := by decide +kernel
theorem dX12_image_57 : decode cX12_image 57 = .ok (.iaload, 1) := by decide +kernel
theorem dX12_image_58 : decode cX12_image 58 = .ok (.iastore, 1) := by decide +kernel
theorem dX12_image_59 : decode cX12_image 59 = .ok (.iinc 1 1, 3) := by decide +kernel
theorem dX12_image_62 : decode cX12_image 62 = .ok (.goto (-21), 3) := by decide +kernel
theorem dX12_image_65 : decode cX12_image 65 = .ok (.iconst 0, 1) := by decide +kernel
theorem dX12_image_66 : decode cX12_image 66 = .ok (.istore_n 1, 1) := by decide +kernel
theorem dX12_image_67 : decode cX12_image 67 = .ok (.iload_n 1, 1) := by decide +kernel
theorem dX12_image_68 : decode cX12_image 68 = .ok (.iconst 5, 1) := by decide +kernel
theorem dX12_image_69 : decode cX12_image 69 = .ok (.if_icmp .ge 57, 3) := by decide +kernel
theorem dX12_image_72 : decode cX12_image 72 = .ok (.aload_n 0, 1) := by decide +kernel
theorem dX12_image_73 : decode cX12_image 73 = .ok (.getfield 84, 3) := by decide +kernel
theorem dX12_image_76 : decode cX12_image 76 = .ok (.iload_n 1, 1) := by decide +kernel
theorem dX12_image_77 : decode cX12_image 77 = .ok (.aload_n 0, 1) := by decide +kernel
theorem dX12_image_78 : decode cX12_image 78 = .ok (.getfield 22, 3) := by decide +kernel
theorem dX12_image_81 : decode cX12_image 81 = .ok (.iload_n 1, 1) := by decide +kernel
theorem dX12_image_82 : decode cX12_image 82 = .ok (.iaload, 1) := by decide +kernel
theorem dX12_image_83 : decode cX12_image 83 = .ok (.iastore, 1) := by decide +kernel
theorem dX12_image_84 : decode cX12_image 84 = .ok (.aload_n 0, 1) := by decide +kernel
theorem dX12_image_85 : decode cX12_image 85 = .ok (.getfield 87, 3) := by decide +kernel
theorem dX12_image_88 : decode cX12_image 88 = .ok (.iload_n 1, 1) := by decide +kernel
theorem dX12_image_89 : decode cX12_image 89 = .ok (.aload_n 0, 1) := by decide +kernel
theorem dX12_image_90 : decode cX12_image 90 = .ok (.getfield 25, 3) := by decide +kernel
theorem dX12_image_93 : decode cX12_image 93 = .ok (.iload_n 1, 1) := by decide +kernel
theorem dX12_image_94 : decode cX12_image 94 = .ok (.iaload, 1) := by decide +kernel
theorem dX12_image_95 : decode cX12_image 95 = .ok (.iastore, 1) := by decide +kernel
theorem dX12_image_96 : decode cX12_image 96 = .ok (.aload_n 0, 1) := by decide +kernel
theorem dX12_image_97 : decode cX12_image 97 = .ok (.getfield 90, 3) := by decide +kernel
theorem dX12_image_100 : decode cX12_image 100 = .ok (.iload_n 1, 1) := by decide +kernel
theorem dX12_image_101 : decode cX12_image 101 = .ok (.aload_n 0, 1) := by decide +kernel
theorem dX12_image_102 : decode cX12_image 102 = .ok (.getfield 28, 3) := by decide +kernel
theorem dX12_image_105 : decode cX12_image 105 = .ok (.iload_n 1, 1) := by decide +kernel
theorem dX12_image_106 : decode cX12_image 106 = .ok (.iaload, 1) := by decide +kernel
theorem dX12_image_107 : decode cX12_image 107 = .ok (.iastore, 1) := by decide +kernel
theorem dX12_image_108 : decode cX12_image 108 = .ok (.aload_n 0, 1) := by decide +kernel
theorem dX12_image_109 : decode cX12_image 109 = .ok (.getfield 93, 3) := by decide +kernel
theorem dX12_image_112 : decode cX12_image 112 = .ok (.iload_n 1, 1) := by decide +kernel
theorem dX12_image_113 : decode cX12_image 113 = .ok (.aload_n 0, 1) := by decide +kernel
theorem dX12_image_114 : decode cX12_image 114 = .ok (.getfield 31, 3) := by decide +kernel
theorem dX12_image_117 : decode cX12_image 117 = .ok (.iload_n 1, 1) := by decide +kernel
theorem dX12_image_118 : decode cX12_image 118 = .ok (.iaload, 1) := by decide +kernel
theorem dX12_image_119 : decode cX12_image 119 = .ok (.iastore, 1) := by decide +kernel
theorem dX12_image_120 : decode cX12_image 120 = .ok (.iinc 1 1, 3) := by decide +kernel
theorem dX12_image_123 : decode cX12_image 123 = .ok (.goto (-56), 3) := by decide +kernel
theorem dX12_image_126 : decode cX12_image 126 = .ok (.iconst 0, 1) := by decide +kernel
theorem dX12_image_127 : decode cX12_image 127 = .ok (.istore_n 1, 1) := by decide +kernel
theorem dX12_image_128 : decode cX12_image 128 = .ok (.iload_n 1, 1) := by decide +kernel
theorem dX12_image_129 : decode cX12_image 129 = .ok (.bipush 6, 2) := by decide +kernel
theorem dX12_image_131 : decode cX12_image 131 = .ok (.if_icmp .ge 57, 3) := by decide +kernel
theorem dX12_image_134 : decode cX12_image 134 = .ok (.aload_n 0, 1) := by decide +kernel
theorem dX12_image_135 : decode cX12_image 135 = .ok (.getfield 96, 3) := by decide +kernel
theorem dX12_image_138 : decode cX12_image 138 = .ok (.iload_n 1, 1) := by decide +kernel
theorem dX12_image_139 : decode cX12_image 139 = .ok (.aload_n 0, 1) := by decide +kernel
theorem dX12_image_140 : decode cX12_image 140 = .ok (.getfield 34, 3) := by decide +kernel
theorem dX12_image_143 : decode cX12_image 143 = .ok (.iload_n 1, 1) := by decide +kernel
theorem dX12_image_144 : decode cX12_image 144 = .ok (.iaload, 1) := by decide +kernel
theorem dX12_image_145 : decode cX12_image 145 = .ok (.iastore, 1) := by decide +kernel
theorem dX12_image_146 : decode cX12_image 146 = .ok (.aload_n 0, 1) := by decide +kernel
theorem dX12_image_147 : decode cX12_image 147 = .ok (.getfield 99, 3) := by decide +kernel
theorem dX12_image_150 : decode cX12_image 150 = .ok (.iload_n 1, 1) := by decide +kernel
theorem dX12_image_151 : decode cX12_image 151 = .ok (.aload_n 0, 1) := by decide +kernel
theorem dX12_image_152 : decode cX12_image 152 = .ok (.getfield 37, 3) := by decide +kernel
theorem dX12_image_155 : decode cX12_image 155 = .ok (.iload_n 1, 1) := by decide +kernel
theorem dX12_image_156 : decode cX12_image 156 = .ok (.iaload, 1) := by decide +kernel
theorem dX12_image_157 : decode cX12_image 157 = .ok (.iastore, 1) := by decide +kernel
theorem dX12_image_158 : decode cX12_image 158 = .ok (.aload_n 0, 1) := by decide +kernel
theorem dX12_image_159 : decode cX12_image 159 = .ok (.getfield 102, 3) := by decide +kernel
theorem dX12_image_162 : decode cX12_image 162 = .ok (.iload_n 1, 1) := by decide +kernel
theorem dX12_image_163 : decode cX12_image 163 = .ok (.aload_n 0, 1) := by decide +kernel
theorem dX12_image_164 : decode cX12_image 164 = .ok (.getfield 40, 3) := by decide +kernel
theorem dX12_image_167 : decode cX12_image 167 = .ok (.iload_n 1, 1) := by decide +kernel
theorem dX12_image_168 : decode cX12_image 168 = .ok (.iaload, 1) := by decide +kernel
theorem dX12_image_169 : decode cX12_image 169 = .ok (.iastore, 1) := by decide +kernel
theorem dX12_image_170 : decode cX12_image 170 = .ok (.aload_n 0, 1) := by decide +kernel
theorem dX12_image_171 : decode cX12_image 171 = .ok (.getfield 105, 3) := by decide +kernel
theorem dX12_image_174 : decode cX12_image 174 = .ok (.iload_n 1, 1) := by decide +kernel
theorem dX12_image_175 : decode cX12_image 175 = .ok (.aload_n 0, 1) := by decide +kernel
theorem dX12_image_176 : decode cX12_image 176 = .ok (.getfield 43, 3) := by decide +kernel
theorem dX12_image_179 : decode cX12_image 179 = .ok (.iload_n 1, 1) := by decide +kernel
theorem dX12_image_180 : decode cX12_image 180 = .ok (.iaload, 1) := by decide +kernel
theorem dX12_image_181 : decode cX12_image 181 = .ok (.iastore, 1) := by decide +kernel
theorem dX12_image_182 : decode cX12_image 182 = .ok (.iinc 1 1, 3) := by decide +kernel
theorem dX12_image_185 : decode cX12_image 185 = .ok (.goto (-57), 3) := by decide +kernel
theorem dX12_image_188 : decode cX12_image 188 = .ok (.aload_n 0, 1) := by decide +kernel
theorem dX12_image_189 : decode cX12_image 189 = .ok (.invokevirtual 321, 3) := by decide +kernel
theorem dX12_image_192 : decode cX12_image 192 = .ok (.ireturn, 1) := by decide +kernel
set_option maxRecDepth 20000 in
theorem ggX12_restore_X12_tookAll : GoodIn wsX12_restore wsX12_tookAll := goodIn_r _ [30, 31, 16, 32, 33, 34, 35, 36, 37, 38, 39, 40, 41, 42, 43, 44, 45, 46, 47, 48, 49, 50, 51, 52, 53, 54, 55, 56, 57, 58, 59, 60, 61, 62, 63, 64, 65, 66, 67, 68, 69, 70, 71, 72, 73, 74, 75, 76, 77, 78, 79, 80] (by decide +kernel) (by decide +kernel)
set_option maxRecDepth 20000 in
theorem gX12_restore_X12_tookAll : GoodIn wsX12_restore (wsV RX12 321 RX12 yX12_tookAll wsX12_tookAll) := goodIn_app (goodIn_of _ (by decide +kernel)) ggX12_restore_X12_tookAll
theorem dX12_restore_0 : decode cX12_restore 0 = .ok (.aload_n 0, 1) := by decide +kernel
theorem dX12_restore_1 : decode cX12_restore 1 = .ok (.getfield 309, 3) := by decide +kernel
theorem dX12_restore_4 : decode cX12_restore 4 = .ok (.ifCond .eq 14, 3) := by decide +kernel
theorem dX12_restore_7 : decode cX12_restore 7 = .ok (.aload_n 0, 1) := by decide +kernel
theorem dX12_restore_8 : decode cX12_restore 8 = .ok (.getfield 312, 3) := by decide +kernel
theorem dX12_restore_11 : decode cX12_restore 11 = .ok (.aload_n 0, 1) := by decide +kernel
theorem dX12_restore_12 : decode cX12_restore 12 = .ok (.getfield 162, 3) := by decide +kernel
theorem dX12_restore_15 : decode cX12_restore 15 = .ok (.if_icmp .eq 6, 3) := by decide +kernel
theorem dX12_restore_18 : decode cX12_restore 18 = .ok (.bipush (-103), 2) := by decide +kernel
theorem dX12_restore_20 : decode cX12_restore 20 = .ok (.ireturn, 1) := by decide +kernel
theorem dX12_restore_21 : decode cX12_restore 21 = .ok (.aload_n 0, 1) := by decide +kernel
theorem dX12_restore_22 : decode cX12_restore 22 = .ok (.aload_n 0, 1) := by decide +kernel
theorem dX12_restore_23 : decode cX12_restore 23 = .ok (.getfield 315, 3) := by decide +kernel
theorem dX12_restore_26 : decode cX12_restore 26 = .ok (.putfield 159, 3) := by decide +kernel
theorem dX12_restore_29 : decode cX12_restore 29 = .ok (.aload_n 0, 1) := by decide +kernel
theorem dX12_restore_30 : decode cX12_restore 30 = .ok (.aload_n 0, 1) := by decide +kernel
theorem dX12_restore_31 : decode cX12_restore 31 = .ok (.getfield 318, 3) := by decide +kernel
theorem dX12_restore_34 : decode cX12_restore 34 = .ok (.putfield 165, 3) := by decide +kernel
theorem dX12_restore_37 : decode cX12_restore 37 = .ok (.iconst 0, 1) := by decide +kernel
theorem dX12_restore_38 : decode cX12_restore 38 = .ok (.istore_n 1, 1) := by decide +kernel
theorem dX12_restore_39 : decode cX12_restore 39 = .ok (.iload_n 1, 1) := by decide +kernel
theorem dX12_restore_40 : decode cX12_restore 40 = .ok (.bipush 7, 2) := by decide +kernel
theorem dX12_restore_42 : decode cX12_restore 42 = .ok (.if_icmp .ge 21, 3) := by decide +kernel
theorem dX12_restore_45 : decode cX12_restore 45 = .ok (.aload_n 0, 1) := by decide +kernel
theorem dX12_restore_46 : decode cX12_restore 46 = .ok (.getfield 16, 3) := by decide +kernel
theorem dX12_restore_49 : decode cX12_restore 49 = .ok (.iload_n 1, 1) := by decide +kernel
theorem dX12_restore_50 : decode cX12_restore 50 = .ok (.aload_n 0, 1) := by decide +kernel
theorem dX12_restore_51 : decode cX12_restore 51 = .ok (.getfield 81, 3) := by decide +kernel
theorem dX12_restore_54 : decode cX12_restore 54 = .ok (.iload_n 1, 1) := by decide +kernel
theorem dX12_restore_55 : decode cX12_restore 55 = .ok (.iaload, 1) := by decide +kernel
theorem dX12_restore_56 : decode cX12_restore 56 = .ok (.iastore, 1) := by decide +kernel
theorem dX12_restore_57 : decode cX12_restore 57 = .ok (.iinc 1 1, 3) := by decide +kernel
theorem dX12_restore_60 : decode cX12_restore 60 = .ok (.goto (-21), 3) := by decide +kernel
theorem dX12_restore_63 : decode cX12_restore 63 = .ok (.iconst 0, 1) := by decide +kernel
theorem dX12_restore_64 : decode cX12_restore 64 = .ok (.istore_n 1, 1) := by decide +kernel
theorem dX12_restore_65 : decode cX12_restore 65 = .ok (.iload_n 1, 1) := by decide +kernel
theorem dX12_restore_66 : decode cX12_restore 66 = .ok (.iconst 5, 1) := by decide +kernel
theorem dX12_restore_67 : decode cX12_restore 67 = .ok (.if_icmp .ge 57, 3) := by decide +kernel
theorem dX12_restore_70 : decode cX12_restore 70 = .ok (.aload_n 0, 1) := by decide +kernel
theorem dX12_restore_71 : decode cX12_restore 71 = .ok (.getfield 22, 3) := by decide +kernel
theorem dX12_restore_74 : decode cX12_restore 74 = .ok (.iload_n 1, 1) := by decide +kernel
theorem dX12_restore_75 : decode cX12_restore 75 = .ok (.aload_n 0, 1) := by decide +kernel
theorem dX12_restore_76 : decode cX12_restore 76 = .ok (.getfield 84, 3) := by decide +kernel
theorem dX12_restore_79 : decode cX12_restore 79 = .ok (.iload_n 1, 1) := by decide +kernel
theorem dX12_restore_80 : decode cX12_restore 80 = .ok (.iaload, 1) := by decide +kernel
theorem dX12_restore_81 : decode cX12_restore 81 = .ok (.iastore, 1) := by decide +kernel
theorem dX12_restore_82 : decode cX12_restore 82 = .ok (.aload_n 0, 1) := by decide +kernel
theorem dX12_restore_83 : decode cX12_restore 83 = .ok (.getfield 25, 3) := by decide +kernel
theorem dX12_restore_86 : decode cX12_restore 86 = .ok (.iload_n 1, 1) := by decide +kernel
theorem dX12_restore_87 : decode cX12_restore 87 = .ok (.aload_n 0, 1) := by decide +kernel
theorem dX12_restore_88 : decode cX12_restore 88 = .ok (.getfield 87, 3) := by decide +kernel
theorem dX12_restore_91 : decode cX12_restore 91 = .ok (.iload_n 1, 1) := by decide +kernel
theorem dX12_restore_92 : decode cX12_restore 92 = .ok (.iaload, 1) := by decide +kernel
theorem dX12_restore_93 : decode cX12_restore 93 = .ok (.iastore, 1) := by decide +kernel
theorem dX12_restore_94 : decode cX12_restore 94 = .ok (.aload_n 0, 1) := by decide +kernel
theorem dX12_restore_95 : decode cX12_restore 95 = .ok (.getfield 28, 3) := by decide +kernel
theorem dX12_restore_98 : decode cX12_restore 98 = .ok (.iload_n 1, 1) := by decide +kernel
theorem dX12_restore_99 : decode cX12_restore 99 = .ok (.aload_n 0, 1) := by decide +kernel
theorem dX12_restore_100 : decode cX12_restore 100 = .ok (.getfield 90, 3) := by decide +kernel
theorem dX12_restore_103 : decode cX12_restore 103 = .ok (.iload_n 1, 1) := by decide +kernel
theorem dX12_restore_104 : decode cX12_restore 104 = .ok (.iaload, 1) := by decide +kernel
theorem dX12_restore_105 : decode cX12_restore 105 = .ok (.iastore, 1) := by decide +kernel
theorem dX12_restore_106 : decode cX12_restore 106 = .ok (.aload_n 0, 1) := by decide +kernel
theorem dX12_restore_107 : decode cX12_restore 107 = .ok (.getfield 31, 3) := by decide +kernel
theorem dX12_restore_110 : decode cX12_restore 110 = .ok (.iload_n 1, 1) := by decide +kernel
theorem dX12_restore_111 : decode cX12_restore 111 = .ok (.aload_n 0, 1) := by decide +kernel
theorem dX12_restore_112 : decode cX12_restore 112 = .ok (.getfield 93, 3) := by decide +kernel
theorem dX12_restore_115 : decode cX12_restore 115 = .ok (.iload_n 1, 1) := by decide +kernel
theorem dX12_restore_116 : decode cX12_restore 116 = .ok (.iaload, 1) := by decide +kernel
theorem dX12_restore_117 : decode cX12_restore 117 = .ok (.iastore, 1) := by decide +kernel
theorem dX12_restore_118 : decode cX12_restore 118 = .ok (.iinc 1 1, 3) := by decide +kernel
theorem dX12_restore_121 : decode cX12_restore 121 = .ok (.goto (-56), 3) := by decide +kernel
theorem dX12_restore_124 : decode cX12_restore 124 = .ok (.iconst 0, 1) := by decide +kernel
theorem dX12_restore_125 : decode cX12_restore 125 = .ok (.istore_n 1, 1) := by decide +kernel
theorem dX12_restore_126 : decode cX12_restore 126 = .ok (.iload_n 1, 1) := by decide +kernel
theorem dX12_restore_127 : decode cX12_restore 127 = .ok (.bipush 6, 2) := by decide +kernel
theorem dX12_restore_129 : decode cX12_restore 129 = .ok (.if_icmp .ge 57, 3) := by decide +kernel
theorem dX12_restore_132 : decode cX12_restore 132 = .ok (.aload_n 0, 1) := by decide +kernel
theorem dX12_restore_133 : decode cX12_restore 133 = .ok (.getfield 34, 3) := by decide +kernel
theorem dX12_restore_136 : decode cX12_restore 136 = .ok (.iload_n 1, 1) := by decide +kernel
theorem dX12_restore_137 : decode cX12_restore 137 = .ok (.aload_n 0, 1) := by decide +kernel
theorem dX12_restore_138 : decode cX12_restore 138 = .ok (.getfield 96, 3) := by decide +kernel
theorem dX12_restore_141 : decode cX12_restore 141 = .ok (.iload_n 1, 1) := by decide +kernel
theorem dX12_restore_142 : decode cX12_restore 142 = .ok (.iaload, 1) := by decide +kernel
theorem dX12_restore_143 : decode cX12_restore 143 = .ok (.iastore, 1) := by decide +kernel
theorem dX12_restore_144 : decode cX12_restore 144 = .ok (.aload_n 0, 1) := by decide +kernel
theorem dX12_restore_145 : decode cX12_restore 145 = .ok (.getfield 37, 3) := by decide +kernel
theorem dX12_restore_148 : decode cX12_restore 148 = .ok (.iload_n 1, 1) := by decide +kernel
theorem dX12_restore_149 : decode cX12_restore 149 = .ok (.aload_n 0, 1) := by decide +kernel
theorem dX12_restore_150 : decode cX12_restore 150 = .ok (.getfield 99, 3) := by decide +kernel
theorem dX12_restore_153 : decode cX12_restore 153 = .ok (.iload_n 1, 1) := by decide +kernel
theorem dX12_restore_154 : decode cX12_restore 154 = .ok (.iaload, 1) := by decide +kernel
theorem dX12_restore_155 : decode cX12_restore 155 = .ok (.iastore, 1) := by decide +kernel
theorem dX12_restore_156 : decode cX12_restore 156 = .ok (.aload_n 0, 1) := by decide +kernel
theorem dX12_restore_157 : decode cX12_restore 157 = .ok (.getfield 40, 3) := by decide +kernel
theorem dX12_restore_160 : decode cX12_restore 160 = .ok (.iload_n 1, 1) := by decide +kernel
theorem dX12_restore_161 : decode cX12_restore 161 = .ok (.aload_n 0, 1) := by decide +kernel
theorem dX12_restore_162 : decode cX12_restore 162 = .ok (.getfield 102, 3) := by decide +kernel
theorem dX12_restore_165 : decode cX12_restore 165 = .ok (.iload_n 1, 1) := by decide +kernel
theorem dX12_restore_166 : decode cX12_restore 166 = .ok (.iaload, 1) := by decide +kernel
theorem dX12_restore_167 : decode cX12_restore 167 = .ok (.iastore, 1) := by decide +kernel
theorem dX12_restore_168 : decode cX12_restore 168 = .ok (.aload_n 0, 1) := by decide +kernel
theorem dX12_restore_169 : decode cX12_restore 169 = .ok (.getfield 43, 3) := by decide +kernel
theorem dX12_restore_172 : decode cX12_restore 172 = .ok (.iload_n 1, 1) := by decide +kernel
theorem dX12_restore_173 : decode cX12_restore 173 = .ok (.aload_n 0, 1) := by decide +kernel
theorem dX12_restore_174 : decode cX12_restore 174 = .ok (.getfield 105, 3) := by decide +kernel
theorem dX12_restore_177 : decode cX12_restore 177 = .ok (.iload_n 1, 1) := by decide +kernel
theorem dX12_restore_178 : decode cX12_restore 178 = .ok (.iaload, 1) := by decide +kernel
theorem dX12_restore_179 : decode cX12_restore 179 = .ok (.iastore, 1) := by decide +kernel
theorem dX12_restore_180 : decode cX12_restore 180 = .ok (.iinc 1 1, 3) := by decide +kernel
theorem dX12_restore_183 : decode cX12_restore 183 = .ok (.goto (-57), 3) := by decide +kernel
theorem dX12_restore_186 : decode cX12_restore 186 = .ok (.aload_n 0, 1) := by decide +kernel
theorem dX12_restore_187 : decode cX12_restore 187 = .ok (.invokevirtual 321, 3) := by decide +kernel
theorem dX12_restore_190 : decode cX12_restore 190 = .ok (.ireturn, 1) := by decide +kernel
theorem dX12_sumOf_0 : decode cX12_sumOf 0 = .ok (.iconst 0, 1) := by decide +kernel
theorem dX12_sumOf_1 : decode cX12_sumOf 1 = .ok (.istore_n 2, 1) := by decide +kernel
theorem dX12_sumOf_2 : decode cX12_sumOf 2 = .ok (.iconst 0, 1) := by decide +kernel
theorem dX12_sumOf_3 : decode cX12_sumOf 3 = .ok (.istore_n 3, 1) := by decide +kernel
theorem dX12_sumOf_4 : decode cX12_sumOf 4 = .ok (.iload_n 3, 1) := by decide +kernel
theorem dX12_sumOf_5 : decode cX12_sumOf 5 = .ok (.aload_n 0, 1) := by decide +kernel
theorem dX12_sumOf_6 : decode cX12_sumOf 6 = .ok (.getfield 156, 3) := by decide +kernel
theorem dX12_sumOf_9 : decode cX12_sumOf 9 = .ok (.if_icmp .ge 31, 3) := by decide +kernel
theorem dX12_sumOf_12 : decode cX12_sumOf 12 = .ok (.iload_n 2, 1) := by decide +kernel
theorem dX12_sumOf_13 : decode cX12_sumOf 13 = .ok (.iload_n 1, 1) := by decide +kernel
theorem dX12_sumOf_14 : decode cX12_sumOf 14 = .ok (.ifCond .eq 12, 3) := by decide +kernel
theorem dX12_sumOf_17 : decode cX12_sumOf 17 = .ok (.aload_n 0, 1) := by decide +kernel
theorem dX12_sumOf_18 : decode cX12_sumOf 18 = .ok (.getfield 22, 3) := by decide +kernel
theorem dX12_sumOf_21 : decode cX12_sumOf 21 = .ok (.iload_n 3, 1) := by decide +kernel
theorem dX12_sumOf_22 : decode cX12_sumOf 22 = .ok (.iaload, 1) := by decide +kernel
theorem dX12_sumOf_23 : decode cX12_sumOf 23 = .ok (.goto 9, 3) := by decide +kernel
theorem dX12_sumOf_26 : decode cX12_sumOf 26 = .ok (.aload_n 0, 1) := by decide +kernel
theorem dX12_sumOf_27 : decode cX12_sumOf 27 = .ok (.getfield 25, 3) := by decide +kernel
theorem dX12_sumOf_30 : decode cX12_sumOf 30 = .ok (.iload_n 3, 1) := by decide +kernel
theorem dX12_sumOf_31 : decode cX12_sumOf 31 = .ok (.iaload, 1) := by decide +kernel
theorem dX12_sumOf_32 : decode cX12_sumOf 32 = .ok (.iadd, 1) := by decide +kernel
theorem dX12_sumOf_33 : decode cX12_sumOf 33 = .ok (.istore_n 2, 1) := by decide +kernel
theorem dX12_sumOf_34 : decode cX12_sumOf 34 = .ok (.iinc 3 1, 3) := by decide +kernel
theorem dX12_sumOf_37 : decode cX12_sumOf 37 = .ok (.goto (-33), 3) := by decide +kernel
theorem dX12_sumOf_40 : decode cX12_sumOf 40 = .ok (.iload_n 2, 1) := by decide +kernel
theorem dX12_sumOf_41 : decode cX12_sumOf 41 = .ok (.ireturn, 1) := by decide +kernel
set_option maxRecDepth 20000 in
theorem ggX12_howMany_X12_sumOf : GoodIn wsX12_howMany wsX12_sumOf := goodIn_r _ [13, 3, 14, 15, 26, 27, 28, 29, 30, 31, 32, 33, 34, 35, 36, 37, 38, 39, 40, 41, 42, 43, 44, 45, 46, 47, 48, 49, 50, 51, 52, 53, 54, 55, 56, 57, 58, 59, 60, 61, 62, 63, 64, 65, 66, 67, 68, 69, 70, 71, 72, 73, 74] (by decide +kernel) (by decide +kernel)
set_option maxRecDepth 20000 in
theorem gX12_howMany_X12_sumOf : GoodIn wsX12_howMany (wsV RX12 324 RX12 yX12_sumOf wsX12_sumOf) := goodIn_app (goodIn_of _ (by decide +kernel)) ggX12_howMany_X12_sumOf
set_option maxRecDepth 20000 in
theorem ggX12_howMany_X12_tookAll : GoodIn wsX12_howMany wsX12_tookAll := goodIn_r _ [19, 3, 20, 26, 27, 28, 29, 30, 31, 32, 33, 34, 35, 36, 37, 38, 39, 40, 41, 42, 43, 44, 45, 46, 47, 48, 49, 50, 51, 52, 53, 54, 55, 56, 57, 58, 59, 60, 61, 62, 63, 64, 65, 66, 67, 68, 69, 70, 71, 72, 73, 74] (by decide +kernel) (by decide +kernel)
set_option maxRecDepth 20000 in
theorem gX12_howMany_X12_tookAll : GoodIn wsX12_howMany (wsV RX12 321 RX12 yX12_tookAll wsX12_tookAll) := goodIn_app (goodIn_of _ (by decide +kernel)) ggX12_howMany_X12_tookAll
set_option maxRecDepth 20000 in
theorem ggX12_howMany_X12_inRoom : GoodIn wsX12_howMany wsX12_inRoom := goodIn_r _ [24, 3, 25, 26, 27, 28, 29, 30, 31, 32, 33, 34, 35, 36, 37, 38, 39, 40, 41, 42, 43, 44, 45, 46, 47, 48, 49, 50, 51, 52, 53, 54, 55, 56, 57, 58, 59, 60, 61, 62, 63, 64, 65, 66, 67, 68, 69, 70, 71, 72, 73, 74] (by decide +kernel) (by decide +kernel)
set_option maxRecDepth 20000 in
theorem gX12_howMany_X12_inRoom : GoodIn wsX12_howMany (wsV RX12 303 RX12 yX12_inRoom wsX12_inRoom) := goodIn_app (goodIn_of _ (by decide +kernel)) ggX12_howMany_X12_inRoom
theorem dX12_howMany_0 : decode cX12_howMany 0 = .ok (.iload_n 1, 1) := by decide +kernel
theorem dX12_howMany_1 : decode cX12_howMany 1 = .ok (.tableswitch 126 0 11 #[63, 68, 73, 78, 84, 90, 95, 100, 106, 111, 116, 121], 63) := by decide +kernel
theorem dX12_howMany_64 : decode cX12_howMany 64 = .ok (.aload_n 0, 1) := by decide +kernel
theorem dX12_howMany_65 : decode cX12_howMany 65 = .ok (.getfield 150, 3) := by decide +kernel
theorem dX12_howMany_68 : decode cX12_howMany 68 = .ok (.ireturn, 1) := by decide +kernel
theorem dX12_howMany_69 : decode cX12_howMany 69 = .ok (.aload_n 0, 1) := by decide +kernel
theorem dX12_howMany_70 : decode cX12_howMany 70 = .ok (.getfield 153, 3) := by decide +kernel
theorem dX12_howMany_73 : decode cX12_howMany 73 = .ok (.ireturn, 1) := by decide +kernel
theorem dX12_howMany_74 : decode cX12_howMany 74 = .ok (.aload_n 0, 1) := by decide +kernel
theorem dX12_howMany_75 : decode cX12_howMany 75 = .ok (.getfield 156, 3) := by decide +kernel
theorem dX12_howMany_78 : decode cX12_howMany 78 = .ok (.ireturn, 1) := by decide +kernel
theorem dX12_howMany_79 : decode cX12_howMany 79 = .ok (.aload_n 0, 1) := by decide +kernel
theorem dX12_howMany_80 : decode cX12_howMany 80 = .ok (.iconst 1, 1) := by decide +kernel
theorem dX12_howMany_81 : decode cX12_howMany 81 = .ok (.invokevirtual 324, 3) := by decide +kernel
theorem dX12_howMany_84 : decode cX12_howMany 84 = .ok (.ireturn, 1) := by decide +kernel
theorem dX12_howMany_85 : decode cX12_howMany 85 = .ok (.aload_n 0, 1) := by decide +kernel
theorem dX12_howMany_86 : decode cX12_howMany 86 = .ok (.iconst 0, 1) := by decide +kernel
theorem dX12_howMany_87 : decode cX12_howMany 87 = .ok (.invokevirtual 324, 3) := by decide +kernel
theorem dX12_howMany_90 : decode cX12_howMany 90 = .ok (.ireturn, 1) := by decide +kernel
theorem dX12_howMany_91 : decode cX12_howMany 91 = .ok (.aload_n 0, 1) := by decide +kernel
theorem dX12_howMany_92 : decode cX12_howMany 92 = .ok (.invokevirtual 321, 3) := by decide +kernel
theorem dX12_howMany_95 : decode cX12_howMany 95 = .ok (.ireturn, 1) := by decide +kernel
theorem dX12_howMany_96 : decode cX12_howMany 96 = .ok (.aload_n 0, 1) := by decide +kernel
theorem dX12_howMany_97 : decode cX12_howMany 97 = .ok (.getfield 159, 3) := by decide +kernel
theorem dX12_howMany_100 : decode cX12_howMany 100 = .ok (.ireturn, 1) := by decide +kernel
theorem dX12_howMany_101 : decode cX12_howMany 101 = .ok (.aload_n 0, 1) := by decide +kernel
theorem dX12_howMany_102 : decode cX12_howMany 102 = .ok (.iconst 0, 1) := by decide +kernel
theorem dX12_howMany_103 : decode cX12_howMany 103 = .ok (.invokevirtual 303, 3) := by decide +kernel
theorem dX12_howMany_106 : decode cX12_howMany 106 = .ok (.ireturn, 1) := by decide +kernel
theorem dX12_howMany_107 : decode cX12_howMany 107 = .ok (.aload_n 0, 1) := by decide +kernel
theorem dX12_howMany_108 : decode cX12_howMany 108 = .ok (.getfield 165, 3) := by decide +kernel
theorem dX12_howMany_111 : decode cX12_howMany 111 = .ok (.ireturn, 1) := by decide +kernel
theorem dX12_howMany_112 : decode cX12_howMany 112 = .ok (.aload_n 0, 1) := by decide +kernel
theorem dX12_howMany_113 : decode cX12_howMany 113 = .ok (.getfield 112, 3) := by decide +kernel
theorem dX12_howMany_116 : decode cX12_howMany 116 = .ok (.ireturn, 1) := by decide +kernel
theorem dX12_howMany_117 : decode cX12_howMany 117 = .ok (.aload_n 0, 1) := by decide +kernel
theorem dX12_howMany_118 : decode cX12_howMany 118 = .ok (.getfield 162, 3) := by decide +kernel
theorem dX12_howMany_121 : decode cX12_howMany 121 = .ok (.ireturn, 1) := by decide +kernel
theorem dX12_howMany_122 : decode cX12_howMany 122 = .ok (.aload_n 0, 1) := by decide +kernel
theorem dX12_howMany_123 : decode cX12_howMany 123 = .ok (.getfield 235, 3) := by decide +kernel
theorem dX12_howMany_126 : decode cX12_howMany 126 = .ok (.ireturn, 1) := by decide +kernel
theorem dX12_howMany_127 : decode cX12_howMany 127 = .ok (.bipush (-102), 2) := by decide +kernel
theorem dX12_howMany_129 : decode cX12_howMany 129 = .ok (.ireturn, 1) := by decide +kernel
set_option maxRecDepth 20000 in
theorem ggX12_count_X12_howMany : GoodIn wsX12_count wsX12_howMany := goodIn_r _ [5, 6, 7, 8, 9, 10, 11, 12, 13, 14, 15, 16, 4, 17, 18, 19, 20, 21, 22, 23, 24, 25, 26, 27, 28, 29, 30, 31, 32, 33, 34, 35, 36, 37, 38, 39, 40, 41, 42, 43, 44, 45, 46, 47, 48, 49, 50, 51, 52, 53, 54, 55, 56, 57, 58, 59, 60, 61, 62, 63, 64, 65, 66, 67, 68, 69, 70, 71, 72, 73, 74, 75, 76, 77, 78] (by decide +kernel) (by decide +kernel)
set_option maxRecDepth 20000 in
theorem gX12_count_X12_howMany : GoodIn wsX12_count (wsV RX12 328 RX12 yX12_howMany wsX12_howMany) := goodIn_app (goodIn_of _ (by decide +kernel)) ggX12_count_X12_howMany
theorem dX12_count_0 : decode cX12_count 0 = .ok (.aload_n 0, 1) := by decide +kernel
theorem dX12_count_1 : decode cX12_count 1 = .ok (.iload_n 1, 1) := by decide +kernel
theorem dX12_count_2 : decode cX12_count 2 = .ok (.invokevirtual 328, 3) := by decide +kernel
theorem dX12_count_5 : decode cX12_count 5 = .ok (.ireturn, 1) := by decide +kernel
theorem dX12_mix_0 : decode cX12_mix 0 = .ok (.aload_n 0, 1) := by decide +kernel
theorem dX12_mix_1 : decode cX12_mix 1 = .ok (.ldc2_w 331, 3) := by decide +kernel
theorem dX12_mix_4 : decode cX12_mix 4 = .ok (.aload_n 0, 1) := by decide +kernel
theorem dX12_mix_5 : decode cX12_mix 5 = .ok (.getfield 333, 3) := by decide +kernel
theorem dX12_mix_8 : decode cX12_mix 8 = .ok (.lmul, 1) := by decide +kernel
theorem dX12_mix_9 : decode cX12_mix 9 = .ok (.lload_n 1, 1) := by decide +kernel
theorem dX12_mix_10 : decode cX12_mix 10 = .ok (.ladd, 1) := by decide +kernel
theorem dX12_mix_11 : decode cX12_mix 11 = .ok (.putfield 333, 3) := by decide +kernel
theorem dX12_mix_14 : decode cX12_mix 14 = .ok (.return_, 1) := by decide +kernel
set_option maxRecDepth 20000 in
theorem ggX12_mixPerson_X12_personNow : GoodIn wsX12_mixPerson wsX12_personNow := goodIn_r _ [7, 8, 9, 10, 2, 11, 12, 13, 14, 6, 15, 16, 17, 18, 19, 20, 21, 22, 23, 24, 25, 26, 27, 28, 29, 30, 31, 32, 33, 34, 35, 36, 37, 38, 39, 40, 41, 42, 43, 44, 45, 46, 47, 81, 82, 83, 84, 85, 86, 87, 88, 89, 90, 91, 92, 93, 94, 95, 96, 97, 98, 99, 100, 101, 102, 103, 104, 105, 106, 107, 108, 109, 110, 111, 112, 113, 114, 115, 116, 117, 118, 119, 120, 121, 122, 123, 124, 125, 126, 127, 128, 129] (by decide +kernel) (by decide +kernel)
set_option maxRecDepth 20000 in
theorem gX12_mixPerson_X12_personNow : GoodIn wsX12_mixPerson (wsV RX12 181 RX12 yX12_personNow wsX12_personNow) := goodIn_app (goodIn_of _ (by decide +kernel)) ggX12_mixPerson_X12_personNow
set_option maxRecDepth 20000 in
theorem ggX12_mixPerson_X12_mix : GoodIn wsX12_mixPerson wsX12_mix := goodIn_r _ [51, 52, 53, 81, 82, 83, 84, 85, 86, 87, 88, 89, 90, 91, 92, 93, 94, 95, 96, 97, 98, 99, 100, 101, 102, 103, 104, 105, 106, 107, 108, 109, 110, 111, 112, 113, 114, 115, 116, 117, 118, 119, 120, 121, 122, 123, 124, 125, 126, 127, 128, 129] (by decide +kernel) (by decide +kernel)
set_option maxRecDepth 20000 in
theorem gX12_mixPerson_X12_mix : GoodIn wsX12_mixPerson (wsV RX12 336 RX12 yX12_mix wsX12_mix) := goodIn_app (goodIn_of _ (by decide +kernel)) ggX12_mixPerson_X12_mix
set_option maxRecDepth 20000 in
theorem ggX12_mixPerson_X12_farNow : GoodIn wsX12_mixPerson wsX12_farNow := goodIn_r _ [57, 58, 59, 60, 6, 61, 62, 38, 63, 64, 65, 66, 1, 39, 67, 68, 29, 30, 31, 32, 33, 9, 10, 8, 69, 70, 71, 72, 73, 74, 75, 76, 77, 78, 79, 80, 81, 82, 83, 84, 85, 86, 87, 88, 89, 90, 91, 92, 93, 94, 95, 96, 97, 98, 99, 100, 101, 102, 103, 104, 105, 106, 107, 108, 109, 110, 111, 112, 113, 114, 115, 116, 117, 118, 119, 120, 121, 122, 123, 124, 125, 126, 127, 128, 129] (by decide +kernel) (by decide +kernel)
set_option maxRecDepth 20000 in
theorem gX12_mixPerson_X12_farNow : GoodIn wsX12_mixPerson (wsV RX12 221 RX12 yX12_farNow wsX12_farNow) := goodIn_app (goodIn_of _ (by decide +kernel)) ggX12_mixPerson_X12_farNow
theorem dX12_mixPerson_0 : decode cX12_mixPerson 0 = .ok (.iconst 0, 1) := by decide +kernel
theorem dX12_mixPerson_1 : decode cX12_mixPerson 1 = .ok (.istore_n 2, 1) := by decide +kernel
theorem dX12_mixPerson_2 : decode cX12_mixPerson 2 = .ok (.iload_n 2, 1) := by decide +kernel
theorem dX12_mixPerson_3 : decode cX12_mixPerson 3 = .ok (.bipush 7, 2) := by decide +kernel
theorem dX12_mixPerson_5 : decode cX12_mixPerson 5 = .ok (.if_icmp .ge 20, 3) := by decide +kernel
theorem dX12_mixPerson_8 : decode cX12_mixPerson 8 = .ok (.aload_n 0, 1) := by decide +kernel
theorem dX12_mixPerson_9 : decode cX12_mixPerson 9 = .ok (.aload_n 0, 1) := by decide +kernel
theorem dX12_mixPerson_10 : decode cX12_mixPerson 10 = .ok (.iload_n 1, 1) := by decide +kernel
theorem dX12_mixPerson_11 : decode cX12_mixPerson 11 = .ok (.iload_n 2, 1) := by decide +kernel
theorem dX12_mixPerson_12 : decode cX12_mixPerson 12 = .ok (.invokevirtual 181, 3) := by decide +kernel
theorem dX12_mixPerson_15 : decode cX12_mixPerson 15 = .ok (.i2l, 1) := by decide +kernel
theorem dX12_mixPerson_16 : decode cX12_mixPerson 16 = .ok (.invokevirtual 336, 3) := by decide +kernel
theorem dX12_mixPerson_19 : decode cX12_mixPerson 19 = .ok (.iinc 2 1, 3) := by decide +kernel
theorem dX12_mixPerson_22 : decode cX12_mixPerson 22 = .ok (.goto (-20), 3) := by decide +kernel
theorem dX12_mixPerson_25 : decode cX12_mixPerson 25 = .ok (.iconst 0, 1) := by decide +kernel
theorem dX12_mixPerson_26 : decode cX12_mixPerson 26 = .ok (.istore_n 2, 1) := by decide +kernel
theorem dX12_mixPerson_27 : decode cX12_mixPerson 27 = .ok (.iload_n 2, 1) := by decide +kernel
theorem dX12_mixPerson_28 : decode cX12_mixPerson 28 = .ok (.aload_n 0, 1) := by decide +kernel
theorem dX12_mixPerson_29 : decode cX12_mixPerson 29 = .ok (.getfield 150, 3) := by decide +kernel
theorem dX12_mixPerson_32 : decode cX12_mixPerson 32 = .ok (.if_icmp .ge 46, 3) := by decide +kernel
theorem dX12_mixPerson_35 : decode cX12_mixPerson 35 = .ok (.aload_n 0, 1) := by decide +kernel
theorem dX12_mixPerson_36 : decode cX12_mixPerson 36 = .ok (.aload_n 0, 1) := by decide +kernel
theorem dX12_mixPerson_37 : decode cX12_mixPerson 37 = .ok (.iload_n 1, 1) := by decide +kernel
theorem dX12_mixPerson_38 : decode cX12_mixPerson 38 = .ok (.aload_n 0, 1) := by decide +kernel
theorem dX12_mixPerson_39 : decode cX12_mixPerson 39 = .ok (.getfield 28, 3) := by decide +kernel
theorem dX12_mixPerson_42 : decode cX12_mixPerson 42 = .ok (.iload_n 1, 1) := by decide +kernel
theorem dX12_mixPerson_43 : decode cX12_mixPerson 43 = .ok (.iaload, 1) := by decide +kernel
theorem dX12_mixPerson_44 : decode cX12_mixPerson 44 = .ok (.iload_n 2, 1) := by decide +kernel
theorem dX12_mixPerson_45 : decode cX12_mixPerson 45 = .ok (.iconst 0, 1) := by decide +kernel
theorem dX12_mixPerson_46 : decode cX12_mixPerson 46 = .ok (.invokevirtual 221, 3) := by decide +kernel
theorem dX12_mixPerson_49 : decode cX12_mixPerson 49 = .ok (.i2l, 1) := by decide +kernel
theorem dX12_mixPerson_50 : decode cX12_mixPerson 50 = .ok (.invokevirtual 336, 3) := by decide +kernel
theorem dX12_mixPerson_53 : decode cX12_mixPerson 53 = .ok (.aload_n 0, 1) := by decide +kernel
theorem dX12_mixPerson_54 : decode cX12_mixPerson 54 = .ok (.aload_n 0, 1) := by decide +kernel
theorem dX12_mixPerson_55 : decode cX12_mixPerson 55 = .ok (.iload_n 1, 1) := by decide +kernel
theorem dX12_mixPerson_56 : decode cX12_mixPerson 56 = .ok (.aload_n 0, 1) := by decide +kernel
theorem dX12_mixPerson_57 : decode cX12_mixPerson 57 = .ok (.getfield 28, 3) := by decide +kernel
theorem dX12_mixPerson_60 : decode cX12_mixPerson 60 = .ok (.iload_n 1, 1) := by decide +kernel
theorem dX12_mixPerson_61 : decode cX12_mixPerson 61 = .ok (.iaload, 1) := by decide +kernel
theorem dX12_mixPerson_62 : decode cX12_mixPerson 62 = .ok (.iload_n 2, 1) := by decide +kernel
theorem dX12_mixPerson_63 : decode cX12_mixPerson 63 = .ok (.bipush 10, 2) := by decide +kernel
theorem dX12_mixPerson_65 : decode cX12_mixPerson 65 = .ok (.invokevirtual 221, 3) := by decide +kernel
theorem dX12_mixPerson_68 : decode cX12_mixPerson 68 = .ok (.i2l, 1) := by decide +kernel
theorem dX12_mixPerson_69 : decode cX12_mixPerson 69 = .ok (.invokevirtual 336, 3) := by decide +kernel
theorem dX12_mixPerson_72 : decode cX12_mixPerson 72 = .ok (.iinc 2 1, 3) := by decide +kernel
theorem dX12_mixPerson_75 : decode cX12_mixPerson 75 = .ok (.goto (-48), 3) := by decide +kernel
theorem dX12_mixPerson_78 : decode cX12_mixPerson 78 = .ok (.return_, 1) := by decide +kernel
set_option maxRecDepth 20000 in
theorem ggX12_digest_X12_mixPerson : GoodIn wsX12_digest wsX12_mixPerson := goodIn_r _ [14, 15, 16, 17, 18, 19, 13, 20, 21, 22, 23, 24, 25, 26, 27, 28, 29, 30, 31, 32, 33, 34, 35, 36, 37, 38, 39, 40, 41, 42, 43, 44, 45, 7, 46, 47, 48, 49, 50, 4, 3, 51, 52, 53, 54, 55, 56, 57, 58, 59, 60, 61, 62, 2, 63, 64, 65, 66, 67, 68, 69, 70, 71, 72, 73, 74, 75, 5, 6, 76, 77, 78, 79, 80, 81, 82, 83, 84, 85, 86, 87, 148, 149, 150, 151, 152, 153, 154, 155, 156, 157, 158, 159, 160, 161, 162, 163, 164, 165, 166, 167, 168, 169, 170, 171, 172, 173, 174, 175, 176, 177, 178, 179, 180, 181, 182, 183, 184, 185, 186, 187, 188, 189, 190, 191, 192, 193, 194, 195, 196] (by decide +kernel) (by decide +kernel)
set_option maxRecDepth 20000 in
theorem gX12_digest_X12_mixPerson : GoodIn wsX12_digest (wsV RX12 342 RX12 yX12_mixPerson wsX12_mixPerson) := goodIn_app (goodIn_of _ (by decide +kernel)) ggX12_digest_X12_mixPerson
set_option maxRecDepth 20000 in
theorem ggX12_digest_X12_mix : GoodIn wsX12_digest wsX12_mix := goodIn_r _ [61, 62, 2, 148, 149, 150, 151, 152, 153, 154, 155, 156, 157, 158, 159, 160, 161, 162, 163, 164, 165, 166, 167, 168, 169, 170, 171, 172, 173, 174, 175, 176, 177, 178, 179, 180, 181, 182, 183, 184, 185, 186, 187, 188, 189, 190, 191, 192, 193, 194, 195, 196] (by decide +kernel) (by decide +kernel)
set_option maxRecDepth 20000 in
theorem gX12_digest_X12_mix : GoodIn wsX12_digest (wsV RX12 336 RX12 yX12_mix wsX12_mix) := goodIn_app (goodIn_of _ (by decide +kernel)) ggX12_digest_X12_mix
set_option maxRecDepth 20000 in
theorem ggX12_digest_X12_pairsNow : GoodIn wsX12_digest wsX12_pairsNow := goodIn_r _ [91, 92, 93, 50, 3, 94, 95, 96, 13, 97, 98, 99, 100, 101, 38, 39, 40, 41, 42, 43, 44, 45, 7, 22, 23, 21, 102, 103, 104, 105, 106, 107, 108, 109, 148, 149, 150, 151, 152, 153, 154, 155, 156, 157, 158, 159, 160, 161, 162, 163, 164, 165, 166, 167, 168, 169, 170, 171, 172, 173, 174, 175, 176, 177, 178, 179, 180, 181, 182, 183, 184, 185, 186, 187, 188, 189, 190, 191, 192, 193, 194, 195, 196] (by decide +kernel) (by decide +kernel)
set_option maxRecDepth 20000 in
theorem gX12_digest_X12_pairsNow : GoodIn wsX12_digest (wsV RX12 253 RX12 yX12_pairsNow wsX12_pairsNow) := goodIn_app (goodIn_of _ (by decide +kernel)) ggX12_digest_X12_pairsNow
set_option maxRecDepth 20000 in
theorem ggX12_digest_X12_meetNow : GoodIn wsX12_digest wsX12_meetNow := goodIn_r _ [113, 114, 16, 115, 15, 116, 117, 118, 13, 119, 120, 121, 4, 122, 123, 124, 125, 80, 81, 82, 83, 5, 6, 84, 85, 86, 87, 126, 127, 128, 148, 149, 150, 151, 152, 153, 154, 155, 156, 157, 158, 159, 160, 161, 162, 163, 164, 165, 166, 167, 168, 169, 170, 171, 172, 173, 174, 175, 176, 177, 178, 179, 180, 181, 182, 183, 184, 185, 186, 187, 188, 189, 190, 191, 192, 193, 194, 195, 196] (by decide +kernel) (by decide +kernel)
set_option maxRecDepth 20000 in
theorem gX12_digest_X12_meetNow : GoodIn wsX12_digest (wsV RX12 273 RX12 yX12_meetNow wsX12_meetNow) := goodIn_app (goodIn_of _ (by decide +kernel)) ggX12_digest_X12_meetNow
set_option maxRecDepth 20000 in
theorem ggX12_digest_X12_howMany : GoodIn wsX12_digest wsX12_howMany := goodIn_r _ [132, 15, 4, 3, 133, 29, 8, 134, 135, 136, 137, 138, 13, 139, 22, 23, 140, 141, 142, 143, 24, 144, 145, 146, 147, 16, 148, 149, 150, 151, 152, 153, 154, 155, 156, 157, 158, 159, 160, 161, 162, 163, 164, 165, 166, 167, 168, 169, 170, 171, 172, 173, 174, 175, 176, 177, 178, 179, 180, 181, 182, 183, 184, 185, 186, 187, 188, 189, 190, 191, 192, 193, 194, 195, 196] (by decide +kernel) (by decide +kernel)
set_option maxRecDepth 20000 in
theorem gX12_digest_X12_howMany : GoodIn wsX12_digest (wsV RX12 328 RX12 yX12_howMany wsX12_howMany) := goodIn_app (goodIn_of _ (by decide +kernel)) ggX12_digest_X12_howMany
theorem dX12_digest_0 : decode cX12_digest 0 = .ok (.aload_n 0, 1) := by decide +kernel
theorem dX12_digest_1 : decode cX12_digest 1 = .ok (.ldc2_w 340, 3) := by decide +kernel
theorem dX12_digest_4 : decode cX12_digest 4 = .ok (.putfield 333, 3) := by decide +kernel
theorem dX12_digest_7 : decode cX12_digest 7 = .ok (.iconst 0, 1) := by decide +kernel
theorem dX12_digest_8 : decode cX12_digest 8 = .ok (.istore_n 1, 1) := by decide +kernel
theorem dX12_digest_9 : decode cX12_digest 9 = .ok (.iload_n 1, 1) := by decide +kernel
theorem dX12_digest_10 : decode cX12_digest 10 = .ok (.aload_n 0, 1) := by decide +kernel
theorem dX12_digest_11 : decode cX12_digest 11 = .ok (.getfield 156, 3) := by decide +kernel
theorem dX12_digest_14 : decode cX12_digest 14 = .ok (.if_icmp .ge 14, 3) := by decide +kernel
theorem dX12_digest_17 : decode cX12_digest 17 = .ok (.aload_n 0, 1) := by decide +kernel
theorem dX12_digest_18 : decode cX12_digest 18 = .ok (.iload_n 1, 1) := by decide +kernel
theorem dX12_digest_19 : decode cX12_digest 19 = .ok (.invokevirtual 342, 3) := by decide +kernel
theorem dX12_digest_22 : decode cX12_digest 22 = .ok (.iinc 1 1, 3) := by decide +kernel
theorem dX12_digest_25 : decode cX12_digest 25 = .ok (.goto (-16), 3) := by decide +kernel
theorem dX12_digest_28 : decode cX12_digest 28 = .ok (.iconst 0, 1) := by decide +kernel
theorem dX12_digest_29 : decode cX12_digest 29 = .ok (.istore_n 1, 1) := by decide +kernel
theorem dX12_digest_30 : decode cX12_digest 30 = .ok (.iload_n 1, 1) := by decide +kernel
theorem dX12_digest_31 : decode cX12_digest 31 = .ok (.aload_n 0, 1) := by decide +kernel
theorem dX12_digest_32 : decode cX12_digest 32 = .ok (.getfield 153, 3) := by decide +kernel
theorem dX12_digest_35 : decode cX12_digest 35 = .ok (.if_icmp .ge 79, 3) := by decide +kernel
theorem dX12_digest_38 : decode cX12_digest 38 = .ok (.aload_n 0, 1) := by decide +kernel
theorem dX12_digest_39 : decode cX12_digest 39 = .ok (.aload_n 0, 1) := by decide +kernel
theorem dX12_digest_40 : decode cX12_digest 40 = .ok (.getfield 7, 3) := by decide +kernel
theorem dX12_digest_43 : decode cX12_digest 43 = .ok (.iload_n 1, 1) := by decide +kernel
theorem dX12_digest_44 : decode cX12_digest 44 = .ok (.iaload, 1) := by decide +kernel
theorem dX12_digest_45 : decode cX12_digest 45 = .ok (.i2l, 1) := by decide +kernel
theorem dX12_digest_46 : decode cX12_digest 46 = .ok (.invokevirtual 336, 3) := by decide +kernel
theorem dX12_digest_49 : decode cX12_digest 49 = .ok (.aload_n 0, 1) := by decide +kernel
theorem dX12_digest_50 : decode cX12_digest 50 = .ok (.aload_n 0, 1) := by decide +kernel
theorem dX12_digest_51 : decode cX12_digest 51 = .ok (.getfield 13, 3) := by decide +kernel
theorem dX12_digest_54 : decode cX12_digest 54 = .ok (.iload_n 1, 1) := by decide +kernel
theorem dX12_digest_55 : decode cX12_digest 55 = .ok (.iaload, 1) := by decide +kernel
theorem dX12_digest_56 : decode cX12_digest 56 = .ok (.i2l, 1) := by decide +kernel
theorem dX12_digest_57 : decode cX12_digest 57 = .ok (.invokevirtual 336, 3) := by decide +kernel
theorem dX12_digest_60 : decode cX12_digest 60 = .ok (.aload_n 0, 1) := by decide +kernel
theorem dX12_digest_61 : decode cX12_digest 61 = .ok (.aload_n 0, 1) := by decide +kernel
theorem dX12_digest_62 : decode cX12_digest 62 = .ok (.getfield 16, 3) := by decide +kernel
theorem dX12_digest_65 : decode cX12_digest 65 = .ok (.iload_n 1, 1) := by decide +kernel
theorem dX12_digest_66 : decode cX12_digest 66 = .ok (.iaload, 1) := by decide +kernel
theorem dX12_digest_67 : decode cX12_digest 67 = .ok (.i2l, 1) := by decide +kernel
theorem dX12_digest_68 : decode cX12_digest 68 = .ok (.invokevirtual 336, 3) := by decide +kernel
theorem dX12_digest_71 : decode cX12_digest 71 = .ok (.aload_n 0, 1) := by decide +kernel
theorem dX12_digest_72 : decode cX12_digest 72 = .ok (.aload_n 0, 1) := by decide +kernel
theorem dX12_digest_73 : decode cX12_digest 73 = .ok (.iload_n 1, 1) := by decide +kernel
theorem dX12_digest_74 : decode cX12_digest 74 = .ok (.iconst 0, 1) := by decide +kernel
theorem dX12_digest_75 : decode cX12_digest 75 = .ok (.invokevirtual 253, 3) := by decide +kernel
theorem dX12_digest_78 : decode cX12_digest 78 = .ok (.i2l, 1) := by decide +kernel
theorem dX12_digest_79 : decode cX12_digest 79 = .ok (.invokevirtual 336, 3) := by decide +kernel
theorem dX12_digest_82 : decode cX12_digest 82 = .ok (.bipush 10, 2) := by decide +kernel
theorem dX12_digest_84 : decode cX12_digest 84 = .ok (.istore_n 2, 1) := by decide +kernel
theorem dX12_digest_85 : decode cX12_digest 85 = .ok (.iload_n 2, 1) := by decide +kernel
theorem dX12_digest_86 : decode cX12_digest 86 = .ok (.bipush 15, 2) := by decide +kernel
theorem dX12_digest_88 : decode cX12_digest 88 = .ok (.if_icmp .ge 20, 3) := by decide +kernel
theorem dX12_digest_91 : decode cX12_digest 91 = .ok (.aload_n 0, 1) := by decide +kernel
theorem dX12_digest_92 : decode cX12_digest 92 = .ok (.aload_n 0, 1) := by decide +kernel
theorem dX12_digest_93 : decode cX12_digest 93 = .ok (.iload_n 1, 1) := by decide +kernel
theorem dX12_digest_94 : decode cX12_digest 94 = .ok (.iload_n 2, 1) := by decide +kernel
theorem dX12_digest_95 : decode cX12_digest 95 = .ok (.invokevirtual 253, 3) := by decide +kernel
theorem dX12_digest_98 : decode cX12_digest 98 = .ok (.i2l, 1) := by decide +kernel
theorem dX12_digest_99 : decode cX12_digest 99 = .ok (.invokevirtual 336, 3) := by decide +kernel
theorem dX12_digest_102 : decode cX12_digest 102 = .ok (.iinc 2 1, 3) := by decide +kernel
theorem dX12_digest_105 : decode cX12_digest 105 = .ok (.goto (-20), 3) := by decide +kernel
theorem dX12_digest_108 : decode cX12_digest 108 = .ok (.iinc 1 1, 3) := by decide +kernel
theorem dX12_digest_111 : decode cX12_digest 111 = .ok (.goto (-81), 3) := by decide +kernel
theorem dX12_digest_114 : decode cX12_digest 114 = .ok (.aload_n 0, 1) := by decide +kernel
theorem dX12_digest_115 : decode cX12_digest 115 = .ok (.getfield 156, 3) := by decide +kernel
theorem dX12_digest_118 : decode cX12_digest 118 = .ok (.iconst 1, 1) := by decide +kernel
theorem dX12_digest_119 : decode cX12_digest 119 = .ok (.if_icmp .le 27, 3) := by decide +kernel
theorem dX12_digest_122 : decode cX12_digest 122 = .ok (.aload_n 0, 1) := by decide +kernel
theorem dX12_digest_123 : decode cX12_digest 123 = .ok (.aload_n 0, 1) := by decide +kernel
theorem dX12_digest_124 : decode cX12_digest 124 = .ok (.iconst 0, 1) := by decide +kernel
theorem dX12_digest_125 : decode cX12_digest 125 = .ok (.iconst 1, 1) := by decide +kernel
theorem dX12_digest_126 : decode cX12_digest 126 = .ok (.iconst 2, 1) := by decide +kernel
theorem dX12_digest_127 : decode cX12_digest 127 = .ok (.iconst 0, 1) := by decide +kernel
theorem dX12_digest_128 : decode cX12_digest 128 = .ok (.invokevirtual 273, 3) := by decide +kernel
theorem dX12_digest_131 : decode cX12_digest 131 = .ok (.invokevirtual 336, 3) := by decide +kernel
theorem dX12_digest_134 : decode cX12_digest 134 = .ok (.aload_n 0, 1) := by decide +kernel
theorem dX12_digest_135 : decode cX12_digest 135 = .ok (.aload_n 0, 1) := by decide +kernel
theorem dX12_digest_136 : decode cX12_digest 136 = .ok (.iconst 0, 1) := by decide +kernel
theorem dX12_digest_137 : decode cX12_digest 137 = .ok (.iconst 1, 1) := by decide +kernel
theorem dX12_digest_138 : decode cX12_digest 138 = .ok (.iconst 2, 1) := by decide +kernel
theorem dX12_digest_139 : decode cX12_digest 139 = .ok (.iconst 1, 1) := by decide +kernel
theorem dX12_digest_140 : decode cX12_digest 140 = .ok (.invokevirtual 273, 3) := by decide +kernel
theorem dX12_digest_143 : decode cX12_digest 143 = .ok (.invokevirtual 336, 3) := by decide +kernel
theorem dX12_digest_146 : decode cX12_digest 146 = .ok (.iconst 0, 1) := by decide +kernel
theorem dX12_digest_147 : decode cX12_digest 147 = .ok (.istore_n 1, 1) := by decide +kernel
theorem dX12_digest_148 : decode cX12_digest 148 = .ok (.iload_n 1, 1) := by decide +kernel
theorem dX12_digest_149 : decode cX12_digest 149 = .ok (.aload_n 0, 1) := by decide +kernel
theorem dX12_digest_150 : decode cX12_digest 150 = .ok (.getfield 112, 3) := by decide +kernel
theorem dX12_digest_153 : decode cX12_digest 153 = .ok (.if_icmp .ge 20, 3) := by decide +kernel
theorem dX12_digest_156 : decode cX12_digest 156 = .ok (.aload_n 0, 1) := by decide +kernel
theorem dX12_digest_157 : decode cX12_digest 157 = .ok (.aload_n 0, 1) := by decide +kernel
theorem dX12_digest_158 : decode cX12_digest 158 = .ok (.getfield 46, 3) := by decide +kernel
theorem dX12_digest_161 : decode cX12_digest 161 = .ok (.iload_n 1, 1) := by decide +kernel
theorem dX12_digest_162 : decode cX12_digest 162 = .ok (.baload, 1) := by decide +kernel
theorem dX12_digest_163 : decode cX12_digest 163 = .ok (.i2l, 1) := by decide +kernel
theorem dX12_digest_164 : decode cX12_digest 164 = .ok (.invokevirtual 336, 3) := by decide +kernel
theorem dX12_digest_167 : decode cX12_digest 167 = .ok (.iinc 1 1, 3) := by decide +kernel
theorem dX12_digest_170 : decode cX12_digest 170 = .ok (.goto (-22), 3) := by decide +kernel
theorem dX12_digest_173 : decode cX12_digest 173 = .ok (.iconst 0, 1) := by decide +kernel
theorem dX12_digest_174 : decode cX12_digest 174 = .ok (.istore_n 1, 1) := by decide +kernel
theorem dX12_digest_175 : decode cX12_digest 175 = .ok (.iload_n 1, 1) := by decide +kernel
theorem dX12_digest_176 : decode cX12_digest 176 = .ok (.bipush 12, 2) := by decide +kernel
theorem dX12_digest_178 : decode cX12_digest 178 = .ok (.if_icmp .ge 19, 3) := by decide +kernel
theorem dX12_digest_181 : decode cX12_digest 181 = .ok (.aload_n 0, 1) := by decide +kernel
theorem dX12_digest_182 : decode cX12_digest 182 = .ok (.aload_n 0, 1) := by decide +kernel
theorem dX12_digest_183 : decode cX12_digest 183 = .ok (.iload_n 1, 1) := by decide +kernel
theorem dX12_digest_184 : decode cX12_digest 184 = .ok (.invokevirtual 328, 3) := by decide +kernel
theorem dX12_digest_187 : decode cX12_digest 187 = .ok (.i2l, 1) := by decide +kernel
theorem dX12_digest_188 : decode cX12_digest 188 = .ok (.invokevirtual 336, 3) := by decide +kernel
theorem dX12_digest_191 : decode cX12_digest 191 = .ok (.iinc 1 1, 3) := by decide +kernel
theorem dX12_digest_194 : decode cX12_digest 194 = .ok (.goto (-19), 3) := by decide +kernel
theorem dX12_digest_197 : decode cX12_digest 197 = .ok (.aload_n 0, 1) := by decide +kernel
theorem dX12_digest_198 : decode cX12_digest 198 = .ok (.getfield 333, 3) := by decide +kernel
theorem dX12_digest_201 : decode cX12_digest 201 = .ok (.lreturn, 1) := by decide +kernel
