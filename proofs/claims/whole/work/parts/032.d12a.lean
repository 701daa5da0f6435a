theorem dX12_init_0 : decode cX12_init 0 = .ok (.aload_n 0, 1) := by decide +kernel
theorem dX12_init_1 : decode cX12_init 1 = .ok (.invokespecial 1, 3) := by decide +kernel
theorem dX12_init_4 : decode cX12_init 4 = .ok (.aload_n 0, 1) := by decide +kernel
theorem dX12_init_5 : decode cX12_init 5 = .ok (.bipush 7, 2) := by decide +kernel
theorem dX12_init_7 : decode cX12_init 7 = .ok (.newarray .int, 2) := by decide +kernel
theorem dX12_init_9 : decode cX12_init 9 = .ok (.putfield 7, 3) := by decide +kernel
theorem dX12_init_12 : decode cX12_init 12 = .ok (.aload_n 0, 1) := by decide +kernel
theorem dX12_init_13 : decode cX12_init 13 = .ok (.bipush 7, 2) := by decide +kernel
theorem dX12_init_15 : decode cX12_init 15 = .ok (.newarray .int, 2) := by decide +kernel
theorem dX12_init_17 : decode cX12_init 17 = .ok (.putfield 13, 3) := by decide +kernel
theorem dX12_init_20 : decode cX12_init 20 = .ok (.aload_n 0, 1) := by decide +kernel
theorem dX12_init_21 : decode cX12_init 21 = .ok (.bipush 7, 2) := by decide +kernel
theorem dX12_init_23 : decode cX12_init 23 = .ok (.newarray .int, 2) := by decide +kernel
theorem dX12_init_25 : decode cX12_init 25 = .ok (.putfield 16, 3) := by decide +kernel
theorem dX12_init_28 : decode cX12_init 28 = .ok (.aload_n 0, 1) := by decide +kernel
theorem dX12_init_29 : decode cX12_init 29 = .ok (.iconst 5, 1) := by decide +kernel
theorem dX12_init_30 : decode cX12_init 30 = .ok (.newarray .int, 2) := by decide +kernel
theorem dX12_init_32 : decode cX12_init 32 = .ok (.putfield 19, 3) := by decide +kernel
theorem dX12_init_35 : decode cX12_init 35 = .ok (.aload_n 0, 1) := by decide +kernel
theorem dX12_init_36 : decode cX12_init 36 = .ok (.iconst 5, 1) := by decide +kernel
theorem dX12_init_37 : decode cX12_init 37 = .ok (.newarray .int, 2) := by decide +kernel
theorem dX12_init_39 : decode cX12_init 39 = .ok (.putfield 22, 3) := by decide +kernel
theorem dX12_init_42 : decode cX12_init 42 = .ok (.aload_n 0, 1) := by decide +kernel
theorem dX12_init_43 : decode cX12_init 43 = .ok (.iconst 5, 1) := by decide +kernel
theorem dX12_init_44 : decode cX12_init 44 = .ok (.newarray .int, 2) := by decide +kernel
theorem dX12_init_46 : decode cX12_init 46 = .ok (.putfield 25, 3) := by decide +kernel
theorem dX12_init_49 : decode cX12_init 49 = .ok (.aload_n 0, 1) := by decide +kernel
theorem dX12_init_50 : decode cX12_init 50 = .ok (.iconst 5, 1) := by decide +kernel
theorem dX12_init_51 : decode cX12_init 51 = .ok (.newarray .int, 2) := by decide +kernel
theorem dX12_init_53 : decode cX12_init 53 = .ok (.putfield 28, 3) := by decide +kernel
theorem dX12_init_56 : decode cX12_init 56 = .ok (.aload_n 0, 1) := by decide +kernel
theorem dX12_init_57 : decode cX12_init 57 = .ok (.iconst 5, 1) := by decide +kernel
theorem dX12_init_58 : decode cX12_init 58 = .ok (.newarray .int, 2) := by decide +kernel
theorem dX12_init_60 : decode cX12_init 60 = .ok (.putfield 31, 3) := by decide +kernel
theorem dX12_init_63 : decode cX12_init 63 = .ok (.aload_n 0, 1) := by decide +kernel
theorem dX12_init_64 : decode cX12_init 64 = .ok (.bipush 6, 2) := by decide +kernel
theorem dX12_init_66 : decode cX12_init 66 = .ok (.newarray .int, 2) := by decide +kernel
theorem dX12_init_68 : decode cX12_init 68 = .ok (.putfield 34, 3) := by decide +kernel
theorem dX12_init_71 : decode cX12_init 71 = .ok (.aload_n 0, 1) := by decide +kernel
theorem dX12_init_72 : decode cX12_init 72 = .ok (.bipush 6, 2) := by decide +kernel
theorem dX12_init_74 : decode cX12_init 74 = .ok (.newarray .int, 2) := by decide +kernel
theorem dX12_init_76 : decode cX12_init 76 = .ok (.putfield 37, 3) := by decide +kernel
theorem dX12_init_79 : decode cX12_init 79 = .ok (.aload_n 0, 1) := by decide +kernel
theorem dX12_init_80 : decode cX12_init 80 = .ok (.bipush 6, 2) := by decide +kernel
theorem dX12_init_82 : decode cX12_init 82 = .ok (.newarray .int, 2) := by decide +kernel
theorem dX12_init_84 : decode cX12_init 84 = .ok (.putfield 40, 3) := by decide +kernel
theorem dX12_init_87 : decode cX12_init 87 = .ok (.aload_n 0, 1) := by decide +kernel
theorem dX12_init_88 : decode cX12_init 88 = .ok (.bipush 6, 2) := by decide +kernel
theorem dX12_init_90 : decode cX12_init 90 = .ok (.newarray .int, 2) := by decide +kernel
theorem dX12_init_92 : decode cX12_init 92 = .ok (.putfield 43, 3) := by decide +kernel
theorem dX12_init_95 : decode cX12_init 95 = .ok (.aload_n 0, 1) := by decide +kernel
theorem dX12_init_96 : decode cX12_init 96 = .ok (.bipush 52, 2) := by decide +kernel
theorem dX12_init_98 : decode cX12_init 98 = .ok (.newarray .byte, 2) := by decide +kernel
theorem dX12_init_100 : decode cX12_init 100 = .ok (.putfield 46, 3) := by decide +kernel
theorem dX12_init_103 : decode cX12_init 103 = .ok (.aload_n 0, 1) := by decide +kernel
theorem dX12_init_104 : decode cX12_init 104 = .ok (.iconst 5, 1) := by decide +kernel
theorem dX12_init_105 : decode cX12_init 105 = .ok (.newarray .int, 2) := by decide +kernel
theorem dX12_init_107 : decode cX12_init 107 = .ok (.putfield 50, 3) := by decide +kernel
theorem dX12_init_110 : decode cX12_init 110 = .ok (.aload_n 0, 1) := by decide +kernel
theorem dX12_init_111 : decode cX12_init 111 = .ok (.iconst 5, 1) := by decide +kernel
theorem dX12_init_112 : decode cX12_init 112 = .ok (.newarray .int, 2) := by decide +kernel
theorem dX12_init_114 : decode cX12_init 114 = .ok (.putfield 53, 3) := by decide +kernel
theorem dX12_init_117 : decode cX12_init 117 = .ok (.aload_n 0, 1) := by decide +kernel
theorem dX12_init_118 : decode cX12_init 118 = .ok (.iconst 5, 1) := by decide +kernel
theorem dX12_init_119 : decode cX12_init 119 = .ok (.newarray .int, 2) := by decide +kernel
theorem dX12_init_121 : decode cX12_init 121 = .ok (.putfield 56, 3) := by decide +kernel
theorem dX12_init_124 : decode cX12_init 124 = .ok (.aload_n 0, 1) := by decide +kernel
theorem dX12_init_125 : decode cX12_init 125 = .ok (.bipush 25, 2) := by decide +kernel
theorem dX12_init_127 : decode cX12_init 127 = .ok (.newarray .int, 2) := by decide +kernel
theorem dX12_init_129 : decode cX12_init 129 = .ok (.putfield 59, 3) := by decide +kernel
theorem dX12_init_132 : decode cX12_init 132 = .ok (.aload_n 0, 1) := by decide +kernel
theorem dX12_init_133 : decode cX12_init 133 = .ok (.iconst 5, 1) := by decide +kernel
theorem dX12_init_134 : decode cX12_init 134 = .ok (.newarray .int, 2) := by decide +kernel
theorem dX12_init_136 : decode cX12_init 136 = .ok (.putfield 62, 3) := by decide +kernel
theorem dX12_init_139 : decode cX12_init 139 = .ok (.aload_n 0, 1) := by decide +kernel
theorem dX12_init_140 : decode cX12_init 140 = .ok (.iconst 5, 1) := by decide +kernel
theorem dX12_init_141 : decode cX12_init 141 = .ok (.newarray .int, 2) := by decide +kernel
theorem dX12_init_143 : decode cX12_init 143 = .ok (.putfield 65, 3) := by decide +kernel
theorem dX12_init_146 : decode cX12_init 146 = .ok (.aload_n 0, 1) := by decide +kernel
theorem dX12_init_147 : decode cX12_init 147 = .ok (.bipush 10, 2) := by decide +kernel
theorem dX12_init_149 : decode cX12_init 149 = .ok (.newarray .long, 2) := by decide +kernel
theorem dX12_init_151 : decode cX12_init 151 = .ok (.putfield 68, 3) := by decide +kernel
theorem dX12_init_154 : decode cX12_init 154 = .ok (.aload_n 0, 1) := by decide +kernel
theorem dX12_init_155 : decode cX12_init 155 = .ok (.iconst 5, 1) := by decide +kernel
theorem dX12_init_156 : decode cX12_init 156 = .ok (.newarray .long, 2) := by decide +kernel
theorem dX12_init_158 : decode cX12_init 158 = .ok (.putfield 72, 3) := by decide +kernel
theorem dX12_init_161 : decode cX12_init 161 = .ok (.aload_n 0, 1) := by decide +kernel
theorem dX12_init_162 : decode cX12_init 162 = .ok (.iconst 5, 1) := by decide +kernel
theorem dX12_init_163 : decode cX12_init 163 = .ok (.newarray .int, 2) := by decide +kernel
theorem dX12_init_165 : decode cX12_init 165 = .ok (.putfield 75, 3) := by decide +kernel
theorem dX12_init_168 : decode cX12_init 168 = .ok (.aload_n 0, 1) := by decide +kernel
theorem dX12_init_169 : decode cX12_init 169 = .ok (.iconst 5, 1) := by decide +kernel
theorem dX12_init_170 : decode cX12_init 170 = .ok (.newarray .int, 2) := by decide +kernel
theorem dX12_init_172 : decode cX12_init 172 = .ok (.putfield 78, 3) := by decide +kernel
theorem dX12_init_175 : decode cX12_init 175 = .ok (.aload_n 0, 1) := by decide +kernel
theorem dX12_init_176 : decode cX12_init 176 = .ok (.bipush 7, 2) := by decide +kernel
theorem dX12_init_178 : decode cX12_init 178 = .ok (.newarray .int, 2) := by decide +kernel
theorem dX12_init_180 : decode cX12_init 180 = .ok (.putfield 81, 3) := by decide +kernel
theorem dX12_init_183 : decode cX12_init 183 = .ok (.aload_n 0, 1) := by decide +kernel
theorem dX12_init_184 : decode cX12_init 184 = .ok (.iconst 5, 1) := by decide +kernel
theorem dX12_init_185 : decode cX12_init 185 = .ok (.newarray .int, 2) := by decide +kernel
theorem dX12_init_187 : decode cX12_init 187 = .ok (.putfield 84, 3) := by decide +kernel
theorem dX12_init_190 : decode cX12_init 190 = .ok (.aload_n 0, 1) := by decide +kernel
theorem dX12_init_191 : decode cX12_init 191 = .ok (.iconst 5, 1) := by decide +kernel
theorem dX12_init_192 : decode cX12_init 192 = .ok (.newarray .int, 2) := by decide +kernel
theorem dX12_init_194 : decode cX12_init 194 = .ok (.putfield 87, 3) := by decide +kernel
theorem dX12_init_197 : decode cX12_init 197 = .ok (.aload_n 0, 1) := by decide +kernel
theorem dX12_init_198 : decode cX12_init 198 = .ok (.iconst 5, 1) := by decide +kernel
theorem dX12_init_199 : decode cX12_init 199 = .ok (.newarray .int, 2) := by decide +kernel
theorem dX12_init_201 : decode cX12_init 201 = .ok (.putfield 90, 3) := by decide +kernel
theorem dX12_init_204 : decode cX12_init 204 = .ok (.aload_n 0, 1) := by decide +kernel
theorem dX12_init_205 : decode cX12_init 205 = .ok (.iconst 5, 1) := by decide +kernel
theorem dX12_init_206 : decode cX12_init 206 = .ok (.newarray .int, 2) := by decide +kernel
theorem dX12_init_208 : decode cX12_init 208 = .ok (.putfield 93, 3) := by decide +kernel
theorem dX12_init_211 : decode cX12_init 211 = .ok (.aload_n 0, 1) := by decide +kernel
theorem dX12_init_212 : decode cX12_init 212 = .ok (.bipush 6, 2) := by decide +kernel
theorem dX12_init_214 : decode cX12_init 214 = .ok (.newarray .int, 2) := by decide +kernel
theorem dX12_init_216 : decode cX12_init 216 = .ok (.putfield 96, 3) := by decide +kernel
theorem dX12_init_219 : decode cX12_init 219 = .ok (.aload_n 0, 1) := by decide +kernel
theorem dX12_init_220 : decode cX12_init 220 = .ok (.bipush 6, 2) := by decide +kernel
theorem dX12_init_222 : decode cX12_init 222 = .ok (.newarray .int, 2) := by decide +kernel
theorem dX12_init_224 : decode cX12_init 224 = .ok (.putfield 99, 3) := by decide +kernel
theorem dX12_init_227 : decode cX12_init 227 = .ok (.aload_n 0, 1) := by decide +kernel
theorem dX12_init_228 : decode cX12_init 228 = .ok (.bipush 6, 2) := by decide +kernel
theorem dX12_init_230 : decode cX12_init 230 = .ok (.newarray .int, 2) := by decide +kernel
theorem dX12_init_232 : decode cX12_init 232 = .ok (.putfield 102, 3) := by decide +kernel
theorem dX12_init_235 : decode cX12_init 235 = .ok (.aload_n 0, 1) := by decide +kernel
theorem dX12_init_236 : decode cX12_init 236 = .ok (.bipush 6, 2) := by decide +kernel
theorem dX12_init_238 : decode cX12_init 238 = .ok (.newarray .int, 2) := by decide +kernel
theorem dX12_init_240 : decode cX12_init 240 = .ok (.putfield 105, 3) := by decide +kernel
theorem dX12_init_243 : decode cX12_init 243 = .ok (.return_, 1) := by decide +kernel
theorem dX12_within_0 : decode cX12_within 0 = .ok (.iload_n 0, 1) := by decide +kernel
theorem dX12_within_1 : decode cX12_within 1 = .ok (.iload_n 1, 1) := by decide +kernel
theorem dX12_within_2 : decode cX12_within 2 = .ok (.if_icmp .lt 12, 3) := by decide +kernel
theorem dX12_within_5 : decode cX12_within 5 = .ok (.iload_n 0, 1) := by decide +kernel
theorem dX12_within_6 : decode cX12_within 6 = .ok (.iload_n 2, 1) := by decide +kernel
theorem dX12_within_7 : decode cX12_within 7 = .ok (.if_icmp .gt 7, 3) := by decide +kernel
theorem dX12_within_10 : decode cX12_within 10 = .ok (.iconst 1, 1) := by decide +kernel
theorem dX12_within_11 : decode cX12_within 11 = .ok (.goto 4, 3) := by decide +kernel
theorem dX12_within_14 : decode cX12_within 14 = .ok (.iconst 0, 1) := by decide +kernel
theorem dX12_within_15 : decode cX12_within 15 = .ok (.ireturn, 1) := by decide +kernel
theorem dX12_isIn_0 : decode cX12_isIn 0 = .ok (.iload_n 0, 1) := by decide +kernel
theorem dX12_isIn_1 : decode cX12_isIn 1 = .ok (.iload_n 1, 1) := by decide +kernel
theorem dX12_isIn_2 : decode cX12_isIn 2 = .ok (.ishr, 1) := by decide +kernel
theorem dX12_isIn_3 : decode cX12_isIn 3 = .ok (.iconst 1, 1) := by decide +kernel
theorem dX12_isIn_4 : decode cX12_isIn 4 = .ok (.iand, 1) := by decide +kernel
theorem dX12_isIn_5 : decode cX12_isIn 5 = .ok (.iconst 1, 1) := by decide +kernel
theorem dX12_isIn_6 : decode cX12_isIn 6 = .ok (.if_icmp .ne 7, 3) := by decide +kernel
theorem dX12_isIn_9 : decode cX12_isIn 9 = .ok (.iconst 1, 1) := by decide +kernel
theorem dX12_isIn_10 : decode cX12_isIn 10 = .ok (.goto 4, 3) := by decide +kernel
theorem dX12_isIn_13 : decode cX12_isIn 13 = .ok (.iconst 0, 1) := by decide +kernel
theorem dX12_isIn_14 : decode cX12_isIn 14 = .ok (.ireturn, 1) := by decide +kernel
theorem dX12_divisor_0 : decode cX12_divisor 0 = .ok (.lload_n 0, 1) := by decide +kernel
theorem dX12_divisor_1 : decode cX12_divisor 1 = .ok (.lstore 4, 2) := by decide +kernel
theorem dX12_divisor_3 : decode cX12_divisor 3 = .ok (.lload_n 2, 1) := by decide +kernel
theorem dX12_divisor_4 : decode cX12_divisor 4 = .ok (.lstore 6, 2) := by decide +kernel
theorem dX12_divisor_6 : decode cX12_divisor 6 = .ok (.lload 6, 2) := by decide +kernel
theorem dX12_divisor_8 : decode cX12_divisor 8 = .ok (.lconst 0, 1) := by decide +kernel
theorem dX12_divisor_9 : decode cX12_divisor 9 = .ok (.lcmp, 1) := by decide +kernel
theorem dX12_divisor_10 : decode cX12_divisor 10 = .ok (.ifCond .eq 21, 3) := by decide +kernel
theorem dX12_divisor_13 : decode cX12_divisor 13 = .ok (.lload 4, 2) := by decide +kernel
theorem dX12_divisor_15 : decode cX12_divisor 15 = .ok (.lload 6, 2) := by decide +kernel
theorem dX12_divisor_17 : decode cX12_divisor 17 = .ok (.lrem, 1) := by decide +kernel
theorem dX12_divisor_18 : decode cX12_divisor 18 = .ok (.lstore 8, 2) := by decide +kernel
theorem dX12_divisor_20 : decode cX12_divisor 20 = .ok (.lload 6, 2) := by decide +kernel
theorem dX12_divisor_22 : decode cX12_divisor 22 = .ok (.lstore 4, 2) := by decide +kernel
theorem dX12_divisor_24 : decode cX12_divisor 24 = .ok (.lload 8, 2) := by decide +kernel
theorem dX12_divisor_26 : decode cX12_divisor 26 = .ok (.lstore 6, 2) := by decide +kernel
theorem dX12_divisor_28 : decode cX12_divisor 28 = .ok (.goto (-22), 3) := by decide +kernel
theorem dX12_divisor_31 : decode cX12_divisor 31 = .ok (.lload 4, 2) := by decide +kernel
theorem dX12_divisor_33 : decode cX12_divisor 33 = .ok (.lreturn, 1) := by decide +kernel
set_option maxRecDepth 20000 in
theorem ggX12_letter_X12_within : GoodIn wsX12_letter wsX12_within := goodIn_r _ [6] (by decide +kernel) (by decide +kernel)
set_option maxRecDepth 20000 in
theorem gX12_letter_X12_within : GoodIn wsX12_letter (va_wsS RX12 108 yX12_within wsX12_within) := goodIn_app (goodIn_of _ (by decide +kernel)) ggX12_letter_X12_within
theorem dX12_letter_0 : decode cX12_letter 0 = .ok (.iload_n 1, 1) := by decide +kernel
theorem dX12_letter_1 : decode cX12_letter 1 = .ok (.bipush 32, 2) := by decide +kernel
theorem dX12_letter_3 : decode cX12_letter 3 = .ok (.bipush 126, 2) := by decide +kernel
theorem dX12_letter_5 : decode cX12_letter 5 = .ok (.invokestatic 108, 3) := by decide +kernel
theorem dX12_letter_8 : decode cX12_letter 8 = .ok (.ifCond .ne 6, 3) := by decide +kernel
theorem dX12_letter_11 : decode cX12_letter 11 = .ok (.bipush (-102), 2) := by decide +kernel
theorem dX12_letter_13 : decode cX12_letter 13 = .ok (.ireturn, 1) := by decide +kernel
theorem dX12_letter_14 : decode cX12_letter 14 = .ok (.aload_n 0, 1) := by decide +kernel
theorem dX12_letter_15 : decode cX12_letter 15 = .ok (.getfield 112, 3) := by decide +kernel
theorem dX12_letter_18 : decode cX12_letter 18 = .ok (.bipush 52, 2) := by decide +kernel
theorem dX12_letter_20 : decode cX12_letter 20 = .ok (.if_icmp .ne 6, 3) := by decide +kernel
theorem dX12_letter_23 : decode cX12_letter 23 = .ok (.bipush (-104), 2) := by decide +kernel
theorem dX12_letter_25 : decode cX12_letter 25 = .ok (.ireturn, 1) := by decide +kernel
theorem dX12_letter_26 : decode cX12_letter 26 = .ok (.aload_n 0, 1) := by decide +kernel
theorem dX12_letter_27 : decode cX12_letter 27 = .ok (.getfield 46, 3) := by decide +kernel
theorem dX12_letter_30 : decode cX12_letter 30 = .ok (.aload_n 0, 1) := by decide +kernel
theorem dX12_letter_31 : decode cX12_letter 31 = .ok (.getfield 112, 3) := by decide +kernel
theorem dX12_letter_34 : decode cX12_letter 34 = .ok (.iload_n 1, 1) := by decide +kernel
theorem dX12_letter_35 : decode cX12_letter 35 = .ok (.i2b, 1) := by decide +kernel
theorem dX12_letter_36 : decode cX12_letter 36 = .ok (.bastore, 1) := by decide +kernel
theorem dX12_letter_37 : decode cX12_letter 37 = .ok (.aload_n 0, 1) := by decide +kernel
theorem dX12_letter_38 : decode cX12_letter 38 = .ok (.dup, 1) := by decide +kernel
theorem dX12_letter_39 : decode cX12_letter 39 = .ok (.getfield 112, 3) := by decide +kernel
theorem dX12_letter_42 : decode cX12_letter 42 = .ok (.iconst 1, 1) := by decide +kernel
theorem dX12_letter_43 : decode cX12_letter 43 = .ok (.iadd, 1) := by decide +kernel
theorem dX12_letter_44 : decode cX12_letter 44 = .ok (.putfield 112, 3) := by decide +kernel
theorem dX12_letter_47 : decode cX12_letter 47 = .ok (.aload_n 0, 1) := by decide +kernel
theorem dX12_letter_48 : decode cX12_letter 48 = .ok (.getfield 112, 3) := by decide +kernel
theorem dX12_letter_51 : decode cX12_letter 51 = .ok (.ireturn, 1) := by decide +kernel
theorem dX12_blank_0 : decode cX12_blank 0 = .ok (.aload_n 0, 1) := by decide +kernel
theorem dX12_blank_1 : decode cX12_blank 1 = .ok (.getfield 112, 3) := by decide +kernel
theorem dX12_blank_4 : decode cX12_blank 4 = .ok (.istore_n 1, 1) := by decide +kernel
theorem dX12_blank_5 : decode cX12_blank 5 = .ok (.aload_n 0, 1) := by decide +kernel
theorem dX12_blank_6 : decode cX12_blank 6 = .ok (.iconst 0, 1) := by decide +kernel
theorem dX12_blank_7 : decode cX12_blank 7 = .ok (.putfield 112, 3) := by decide +kernel
theorem dX12_blank_10 : decode cX12_blank 10 = .ok (.iload_n 1, 1) := by decide +kernel
theorem dX12_blank_11 : decode cX12_blank 11 = .ok (.ireturn, 1) := by decide +kernel
theorem dX12_kindBy_0 : decode cX12_kindBy 0 = .ok (.iload_n 0, 1) := by decide +kernel
theorem dX12_kindBy_1 : decode cX12_kindBy 1 = .ok (.lookupswitch 61 #[(98, 53), (99, 51), (108, 59), (109, 55), (119, 57)], 51) := by decide +kernel
theorem dX12_kindBy_52 : decode cX12_kindBy 52 = .ok (.iconst 0, 1) := by decide +kernel
theorem dX12_kindBy_53 : decode cX12_kindBy 53 = .ok (.ireturn, 1) := by decide +kernel
theorem dX12_kindBy_54 : decode cX12_kindBy 54 = .ok (.iconst 1, 1) := by decide +kernel
theorem dX12_kindBy_55 : decode cX12_kindBy 55 = .ok (.ireturn, 1) := by decide +kernel
theorem dX12_kindBy_56 : decode cX12_kindBy 56 = .ok (.iconst 2, 1) := by decide +kernel
theorem dX12_kindBy_57 : decode cX12_kindBy 57 = .ok (.ireturn, 1) := by decide +kernel
theorem dX12_kindBy_58 : decode cX12_kindBy 58 = .ok (.iconst 3, 1) := by decide +kernel
theorem dX12_kindBy_59 : decode cX12_kindBy 59 = .ok (.ireturn, 1) := by decide +kernel
theorem dX12_kindBy_60 : decode cX12_kindBy 60 = .ok (.iconst 4, 1) := by decide +kernel
theorem dX12_kindBy_61 : decode cX12_kindBy 61 = .ok (.ireturn, 1) := by decide +kernel
theorem dX12_kindBy_62 : decode cX12_kindBy 62 = .ok (.iconst (-1), 1) := by decide +kernel
theorem dX12_kindBy_63 : decode cX12_kindBy 63 = .ok (.ireturn, 1) := by decide +kernel
theorem dX12_at_0 : decode cX12_at 0 = .ok (.iload_n 1, 1) := by decide +kernel
theorem dX12_at_1 : decode cX12_at 1 = .ok (.aload_n 0, 1) := by decide +kernel
theorem dX12_at_2 : decode cX12_at 2 = .ok (.getfield 112, 3) := by decide +kernel
theorem dX12_at_5 : decode cX12_at 5 = .ok (.if_icmp .ge 12, 3) := by decide +kernel
theorem dX12_at_8 : decode cX12_at 8 = .ok (.aload_n 0, 1) := by decide +kernel
theorem dX12_at_9 : decode cX12_at 9 = .ok (.getfield 46, 3) := by decide +kernel
theorem dX12_at_12 : decode cX12_at 12 = .ok (.iload_n 1, 1) := by decide +kernel
theorem dX12_at_13 : decode cX12_at 13 = .ok (.baload, 1) := by decide +kernel
theorem dX12_at_14 : decode cX12_at 14 = .ok (.goto 4, 3) := by decide +kernel
theorem dX12_at_17 : decode cX12_at 17 = .ok (.iconst 0, 1) := by decide +kernel
theorem dX12_at_18 : decode cX12_at 18 = .ok (.ireturn, 1) := by decide +kernel
set_option maxRecDepth 20000 in
theorem ggX12_isFigure_X12_at : GoodIn wsX12_isFigure wsX12_at := goodIn_r _ [5, 6, 7, 11, 12, 13, 14, 15, 16, 17, 18, 19, 20, 21, 22, 23, 24, 25, 26, 27, 28, 29, 30, 31, 32, 33, 34, 35, 36, 37, 38, 39, 40, 41, 42, 43, 44, 45, 46, 47, 48, 49, 50, 51, 52, 53, 54, 55, 56, 57, 58, 59] (by decide +kernel) (by decide +kernel)
set_option maxRecDepth 20000 in
theorem gX12_isFigure_X12_at : GoodIn wsX12_isFigure (wsV RX12 116 RX12 yX12_at wsX12_at) := goodIn_app (goodIn_of _ (by decide +kernel)) ggX12_isFigure_X12_at
set_option maxRecDepth 20000 in
theorem ggX12_isFigure_X12_within : GoodIn wsX12_isFigure wsX12_within := goodIn_r _ [10] (by decide +kernel) (by decide +kernel)
set_option maxRecDepth 20000 in
theorem gX12_isFigure_X12_within : GoodIn wsX12_isFigure (va_wsS RX12 108 yX12_within wsX12_within) := goodIn_app (goodIn_of _ (by decide +kernel)) ggX12_isFigure_X12_within
theorem dX12_isFigure_0 : decode cX12_isFigure 0 = .ok (.aload_n 0, 1) := by decide +kernel
theorem dX12_isFigure_1 : decode cX12_isFigure 1 = .ok (.iload_n 1, 1) := by decide +kernel
theorem dX12_isFigure_2 : decode cX12_isFigure 2 = .ok (.invokevirtual 116, 3) := by decide +kernel
theorem dX12_isFigure_5 : decode cX12_isFigure 5 = .ok (.bipush 48, 2) := by decide +kernel
theorem dX12_isFigure_7 : decode cX12_isFigure 7 = .ok (.isub, 1) := by decide +kernel
theorem dX12_isFigure_8 : decode cX12_isFigure 8 = .ok (.iload_n 2, 1) := by decide +kernel
theorem dX12_isFigure_9 : decode cX12_isFigure 9 = .ok (.iload_n 3, 1) := by decide +kernel
theorem dX12_isFigure_10 : decode cX12_isFigure 10 = .ok (.invokestatic 108, 3) := by decide +kernel
theorem dX12_isFigure_13 : decode cX12_isFigure 13 = .ok (.ireturn, 1) := by decide +kernel
set_option maxRecDepth 20000 in
theorem ggX12_readPassage_X12_isFigure : GoodIn wsX12_readPassage wsX12_isFigure := goodIn_r _ [5, 6, 7, 8, 4, 9, 10, 11, 12, 13, 14, 15, 16, 17, 18, 19, 20, 21, 22, 23, 24, 25, 26, 27, 28, 29, 30, 31, 32, 33, 34, 35, 36, 37, 38, 39, 40, 41, 42, 43, 44, 45, 46, 47, 48, 49, 50, 51, 52, 53, 54, 55, 56, 57, 58, 59, 60, 61, 62, 63] (by decide +kernel) (by decide +kernel)
set_option maxRecDepth 20000 in
theorem gX12_readPassage_X12_isFigure : GoodIn wsX12_readPassage (wsV RX12 120 RX12 yX12_isFigure wsX12_isFigure) := goodIn_app (goodIn_of _ (by decide +kernel)) ggX12_readPassage_X12_isFigure
set_option maxRecDepth 20000 in
theorem ggX12_readPassage_X12_at : GoodIn wsX12_readPassage wsX12_at := goodIn_r _ [9, 10, 11, 15, 16, 17, 18, 19, 20, 21, 22, 23, 24, 25, 26, 27, 28, 29, 30, 31, 32, 33, 34, 35, 36, 37, 38, 39, 40, 41, 42, 43, 44, 45, 46, 47, 48, 49, 50, 51, 52, 53, 54, 55, 56, 57, 58, 59, 60, 61, 62, 63] (by decide +kernel) (by decide +kernel)
set_option maxRecDepth 20000 in
theorem gX12_readPassage_X12_at : GoodIn wsX12_readPassage (wsV RX12 116 RX12 yX12_at wsX12_at) := goodIn_app (goodIn_of _ (by decide +kernel)) ggX12_readPassage_X12_at
theorem dX12_readPassage_0 : decode cX12_readPassage 0 = .ok (.aload_n 0, 1) := by decide +kernel
theorem dX12_readPassage_1 : decode cX12_readPassage 1 = .ok (.iload_n 1, 1) := by decide +kernel
theorem dX12_readPassage_2 : decode cX12_readPassage 2 = .ok (.iconst 0, 1) := by decide +kernel
theorem dX12_readPassage_3 : decode cX12_readPassage 3 = .ok (.iload_n 2, 1) := by decide +kernel
theorem dX12_readPassage_4 : decode cX12_readPassage 4 = .ok (.invokevirtual 120, 3) := by decide +kernel
theorem dX12_readPassage_7 : decode cX12_readPassage 7 = .ok (.ifCond .ne 5, 3) := by decide +kernel
theorem dX12_readPassage_10 : decode cX12_readPassage 10 = .ok (.iload_n 1, 1) := by decide +kernel
theorem dX12_readPassage_11 : decode cX12_readPassage 11 = .ok (.ireturn, 1) := by decide +kernel
theorem dX12_readPassage_12 : decode cX12_readPassage 12 = .ok (.aload_n 0, 1) := by decide +kernel
theorem dX12_readPassage_13 : decode cX12_readPassage 13 = .ok (.iload_n 1, 1) := by decide +kernel
theorem dX12_readPassage_14 : decode cX12_readPassage 14 = .ok (.iconst 1, 1) := by decide +kernel
theorem dX12_readPassage_15 : decode cX12_readPassage 15 = .ok (.iadd, 1) := by decide +kernel
theorem dX12_readPassage_16 : decode cX12_readPassage 16 = .ok (.iconst 0, 1) := by decide +kernel
theorem dX12_readPassage_17 : decode cX12_readPassage 17 = .ok (.iload_n 2, 1) := by decide +kernel
theorem dX12_readPassage_18 : decode cX12_readPassage 18 = .ok (.invokevirtual 120, 3) := by decide +kernel
theorem dX12_readPassage_21 : decode cX12_readPassage 21 = .ok (.ifCond .eq 18, 3) := by decide +kernel
theorem dX12_readPassage_24 : decode cX12_readPassage 24 = .ok (.aload_n 0, 1) := by decide +kernel
theorem dX12_readPassage_25 : decode cX12_readPassage 25 = .ok (.iload_n 1, 1) := by decide +kernel
theorem dX12_readPassage_26 : decode cX12_readPassage 26 = .ok (.invokevirtual 116, 3) := by decide +kernel
theorem dX12_readPassage_29 : decode cX12_readPassage 29 = .ok (.aload_n 0, 1) := by decide +kernel
theorem dX12_readPassage_30 : decode cX12_readPassage 30 = .ok (.iload_n 1, 1) := by decide +kernel
theorem dX12_readPassage_31 : decode cX12_readPassage 31 = .ok (.iconst 1, 1) := by decide +kernel
theorem dX12_readPassage_32 : decode cX12_readPassage 32 = .ok (.iadd, 1) := by decide +kernel
theorem dX12_readPassage_33 : decode cX12_readPassage 33 = .ok (.invokevirtual 116, 3) := by decide +kernel
theorem dX12_readPassage_36 : decode cX12_readPassage 36 = .ok (.if_icmp .ne 7, 3) := by decide +kernel
theorem dX12_readPassage_39 : decode cX12_readPassage 39 = .ok (.iload_n 1, 1) := by decide +kernel
theorem dX12_readPassage_40 : decode cX12_readPassage 40 = .ok (.iconst 1, 1) := by decide +kernel
theorem dX12_readPassage_41 : decode cX12_readPassage 41 = .ok (.iadd, 1) := by decide +kernel
theorem dX12_readPassage_42 : decode cX12_readPassage 42 = .ok (.ireturn, 1) := by decide +kernel
theorem dX12_readPassage_43 : decode cX12_readPassage 43 = .ok (.aload_n 0, 1) := by decide +kernel
theorem dX12_readPassage_44 : decode cX12_readPassage 44 = .ok (.iload_n 1, 1) := by decide +kernel
theorem dX12_readPassage_45 : decode cX12_readPassage 45 = .ok (.iconst 2, 1) := by decide +kernel
theorem dX12_readPassage_46 : decode cX12_readPassage 46 = .ok (.iadd, 1) := by decide +kernel
theorem dX12_readPassage_47 : decode cX12_readPassage 47 = .ok (.iconst 1, 1) := by decide +kernel
theorem dX12_readPassage_48 : decode cX12_readPassage 48 = .ok (.bipush 9, 2) := by decide +kernel
theorem dX12_readPassage_50 : decode cX12_readPassage 50 = .ok (.invokevirtual 120, 3) := by decide +kernel
theorem dX12_readPassage_53 : decode cX12_readPassage 53 = .ok (.ifCond .eq 9, 3) := by decide +kernel
theorem dX12_readPassage_56 : decode cX12_readPassage 56 = .ok (.iload_n 1, 1) := by decide +kernel
theorem dX12_readPassage_57 : decode cX12_readPassage 57 = .ok (.iconst 3, 1) := by decide +kernel
theorem dX12_readPassage_58 : decode cX12_readPassage 58 = .ok (.iadd, 1) := by decide +kernel
theorem dX12_readPassage_59 : decode cX12_readPassage 59 = .ok (.goto 6, 3) := by decide +kernel
theorem dX12_readPassage_62 : decode cX12_readPassage 62 = .ok (.iload_n 1, 1) := by decide +kernel
theorem dX12_readPassage_63 : decode cX12_readPassage 63 = .ok (.iconst 2, 1) := by decide +kernel
theorem dX12_readPassage_64 : decode cX12_readPassage 64 = .ok (.iadd, 1) := by decide +kernel
theorem dX12_readPassage_65 : decode cX12_readPassage 65 = .ok (.ireturn, 1) := by decide +kernel
set_option maxRecDepth 20000 in
theorem ggX12_readPerson_X12_at : GoodIn wsX12_readPerson wsX12_at := goodIn_r _ [5, 6, 7, 18, 19, 20, 21, 22, 23, 24, 25, 26, 27, 28, 29, 30, 31, 32, 33, 34, 35, 36, 37, 38, 39, 40, 41, 42, 43, 44, 45, 46, 47, 48, 49, 50, 51, 52, 53, 54, 55, 56, 57, 58, 59, 60, 61, 62, 63, 64, 65, 66] (by decide +kernel) (by decide +kernel)
set_option maxRecDepth 20000 in
theorem gX12_readPerson_X12_at : GoodIn wsX12_readPerson (wsV RX12 116 RX12 yX12_at wsX12_at) := goodIn_app (goodIn_of _ (by decide +kernel)) ggX12_readPerson_X12_at
set_option maxRecDepth 20000 in
theorem ggX12_readPerson_X12_kindBy : GoodIn wsX12_readPerson wsX12_kindBy := goodIn_r _ [10] (by decide +kernel) (by decide +kernel)
set_option maxRecDepth 20000 in
theorem gX12_readPerson_X12_kindBy : GoodIn wsX12_readPerson (va_wsS RX12 123 yX12_kindBy wsX12_kindBy) := goodIn_app (goodIn_of _ (by decide +kernel)) ggX12_readPerson_X12_kindBy
set_option maxRecDepth 20000 in
theorem ggX12_readPerson_X12_isFigure : GoodIn wsX12_readPerson wsX12_isFigure := goodIn_r _ [14, 1, 2, 3, 4, 5, 6, 7, 15, 16, 17, 18, 19, 20, 21, 22, 23, 24, 25, 26, 27, 28, 29, 30, 31, 32, 33, 34, 35, 36, 37, 38, 39, 40, 41, 42, 43, 44, 45, 46, 47, 48, 49, 50, 51, 52, 53, 54, 55, 56, 57, 58, 59, 60, 61, 62, 63, 64, 65, 66] (by decide +kernel) (by decide +kernel)
set_option maxRecDepth 20000 in
theorem gX12_readPerson_X12_isFigure : GoodIn wsX12_readPerson (wsV RX12 120 RX12 yX12_isFigure wsX12_isFigure) := goodIn_app (goodIn_of _ (by decide +kernel)) ggX12_readPerson_X12_isFigure
theorem dX12_readPerson_0 : decode cX12_readPerson 0 = .ok (.aload_n 0, 1) := by decide +kernel
theorem dX12_readPerson_1 : decode cX12_readPerson 1 = .ok (.iload_n 1, 1) := by decide +kernel
theorem dX12_readPerson_2 : decode cX12_readPerson 2 = .ok (.invokevirtual 116, 3) := by decide +kernel
theorem dX12_readPerson_5 : decode cX12_readPerson 5 = .ok (.invokestatic 123, 3) := by decide +kernel
theorem dX12_readPerson_8 : decode cX12_readPerson 8 = .ok (.iconst (-1), 1) := by decide +kernel
theorem dX12_readPerson_9 : decode cX12_readPerson 9 = .ok (.if_icmp .ne 5, 3) := by decide +kernel
theorem dX12_readPerson_12 : decode cX12_readPerson 12 = .ok (.iload_n 1, 1) := by decide +kernel
theorem dX12_readPerson_13 : decode cX12_readPerson 13 = .ok (.ireturn, 1) := by decide +kernel
theorem dX12_readPerson_14 : decode cX12_readPerson 14 = .ok (.aload_n 0, 1) := by decide +kernel
theorem dX12_readPerson_15 : decode cX12_readPerson 15 = .ok (.iload_n 1, 1) := by decide +kernel
theorem dX12_readPerson_16 : decode cX12_readPerson 16 = .ok (.iconst 1, 1) := by decide +kernel
theorem dX12_readPerson_17 : decode cX12_readPerson 17 = .ok (.iadd, 1) := by decide +kernel
theorem dX12_readPerson_18 : decode cX12_readPerson 18 = .ok (.iconst 0, 1) := by decide +kernel
theorem dX12_readPerson_19 : decode cX12_readPerson 19 = .ok (.bipush 9, 2) := by decide +kernel
theorem dX12_readPerson_21 : decode cX12_readPerson 21 = .ok (.invokevirtual 120, 3) := by decide +kernel
theorem dX12_readPerson_24 : decode cX12_readPerson 24 = .ok (.ifCond .ne 9, 3) := by decide +kernel
theorem dX12_readPerson_27 : decode cX12_readPerson 27 = .ok (.iload_n 1, 1) := by decide +kernel
theorem dX12_readPerson_28 : decode cX12_readPerson 28 = .ok (.iconst 1, 1) := by decide +kernel
theorem dX12_readPerson_29 : decode cX12_readPerson 29 = .ok (.iadd, 1) := by decide +kernel
theorem dX12_readPerson_30 : decode cX12_readPerson 30 = .ok (.goto 25, 3) := by decide +kernel
theorem dX12_readPerson_33 : decode cX12_readPerson 33 = .ok (.aload_n 0, 1) := by decide +kernel
theorem dX12_readPerson_34 : decode cX12_readPerson 34 = .ok (.iload_n 1, 1) := by decide +kernel
theorem dX12_readPerson_35 : decode cX12_readPerson 35 = .ok (.iconst 2, 1) := by decide +kernel
theorem dX12_readPerson_36 : decode cX12_readPerson 36 = .ok (.iadd, 1) := by decide +kernel
theorem dX12_readPerson_37 : decode cX12_readPerson 37 = .ok (.iconst 0, 1) := by decide +kernel
theorem dX12_readPerson_38 : decode cX12_readPerson 38 = .ok (.bipush 9, 2) := by decide +kernel
theorem dX12_readPerson_40 : decode cX12_readPerson 40 = .ok (.invokevirtual 120, 3) := by decide +kernel
theorem dX12_readPerson_43 : decode cX12_readPerson 43 = .ok (.ifCond .eq 9, 3) := by decide +kernel
theorem dX12_readPerson_46 : decode cX12_readPerson 46 = .ok (.iload_n 1, 1) := by decide +kernel
theorem dX12_readPerson_47 : decode cX12_readPerson 47 = .ok (.iconst 3, 1) := by decide +kernel
theorem dX12_readPerson_48 : decode cX12_readPerson 48 = .ok (.iadd, 1) := by decide +kernel
theorem dX12_readPerson_49 : decode cX12_readPerson 49 = .ok (.goto 6, 3) := by decide +kernel
theorem dX12_readPerson_52 : decode cX12_readPerson 52 = .ok (.iload_n 1, 1) := by decide +kernel
theorem dX12_readPerson_53 : decode cX12_readPerson 53 = .ok (.iconst 2, 1) := by decide +kernel
theorem dX12_readPerson_54 : decode cX12_readPerson 54 = .ok (.iadd, 1) := by decide +kernel
theorem dX12_readPerson_55 : decode cX12_readPerson 55 = .ok (.ireturn, 1) := by decide +kernel
set_option maxRecDepth 20000 in
theorem ggX12_readPeople_X12_readPerson : GoodIn wsX12_readPeople wsX12_readPerson := goodIn_r _ [8, 9, 10, 11, 7, 12, 2, 13, 14, 15, 16, 17, 18, 19, 20, 21, 22, 23, 24, 25, 26, 27, 28, 29, 30, 31, 32, 33, 34, 35, 36, 37, 38, 39, 40, 41, 42, 43, 44, 45, 46, 47, 48, 49, 50, 51, 52, 53, 54, 55, 56, 57, 58, 59, 60, 61, 62, 63, 64, 65, 66, 67, 68, 69, 70, 71, 72] (by decide +kernel) (by decide +kernel)
set_option maxRecDepth 20000 in
theorem gX12_readPeople_X12_readPerson : GoodIn wsX12_readPeople (wsV RX12 129 RX12 yX12_readPerson wsX12_readPerson) := goodIn_app (goodIn_of _ (by decide +kernel)) ggX12_readPeople_X12_readPerson
set_option maxRecDepth 20000 in
theorem ggX12_readPeople_X12_at : GoodIn wsX12_readPeople wsX12_at := goodIn_r _ [12, 2, 13, 24, 25, 26, 27, 28, 29, 30, 31, 32, 33, 34, 35, 36, 37, 38, 39, 40, 41, 42, 43, 44, 45, 46, 47, 48, 49, 50, 51, 52, 53, 54, 55, 56, 57, 58, 59, 60, 61, 62, 63, 64, 65, 66, 67, 68, 69, 70, 71, 72] (by decide +kernel) (by decide +kernel)
set_option maxRecDepth 20000 in
theorem gX12_readPeople_X12_at : GoodIn wsX12_readPeople (wsV RX12 116 RX12 yX12_at wsX12_at) := goodIn_app (goodIn_of _ (by decide +kernel)) ggX12_readPeople_X12_at
theorem dX12_readPeople_0 : decode cX12_readPeople 0 = .ok (.iload_n 1, 1) := by decide +kernel
theorem dX12_readPeople_1 : decode cX12_readPeople 1 = .ok (.istore_n 2, 1) := by decide +kernel
theorem dX12_readPeople_2 : decode cX12_readPeople 2 = .ok (.aload_n 0, 1) := by decide +kernel
theorem dX12_readPeople_3 : decode cX12_readPeople 3 = .ok (.getfield 126, 3) := by decide +kernel
theorem dX12_readPeople_6 : decode cX12_readPeople 6 = .ok (.iconst 5, 1) := by decide +kernel
theorem dX12_readPeople_7 : decode cX12_readPeople 7 = .ok (.if_icmp .ge 73, 3) := by decide +kernel
theorem dX12_readPeople_10 : decode cX12_readPeople 10 = .ok (.aload_n 0, 1) := by decide +kernel
theorem dX12_readPeople_11 : decode cX12_readPeople 11 = .ok (.iload_n 2, 1) := by decide +kernel
theorem dX12_readPeople_12 : decode cX12_readPeople 12 = .ok (.invokevirtual 129, 3) := by decide +kernel
theorem dX12_readPeople_15 : decode cX12_readPeople 15 = .ok (.istore_n 3, 1) := by decide +kernel
theorem dX12_readPeople_16 : decode cX12_readPeople 16 = .ok (.iload_n 3, 1) := by decide +kernel
theorem dX12_readPeople_17 : decode cX12_readPeople 17 = .ok (.iload_n 2, 1) := by decide +kernel
theorem dX12_readPeople_18 : decode cX12_readPeople 18 = .ok (.iconst 3, 1) := by decide +kernel
theorem dX12_readPeople_19 : decode cX12_readPeople 19 = .ok (.iadd, 1) := by decide +kernel
theorem dX12_readPeople_20 : decode cX12_readPeople 20 = .ok (.if_icmp .eq 5, 3) := by decide +kernel
theorem dX12_readPeople_23 : decode cX12_readPeople 23 = .ok (.iload_n 3, 1) := by decide +kernel
theorem dX12_readPeople_24 : decode cX12_readPeople 24 = .ok (.ireturn, 1) := by decide +kernel
theorem dX12_readPeople_25 : decode cX12_readPeople 25 = .ok (.aload_n 0, 1) := by decide +kernel
theorem dX12_readPeople_26 : decode cX12_readPeople 26 = .ok (.dup, 1) := by decide +kernel
theorem dX12_readPeople_27 : decode cX12_readPeople 27 = .ok (.getfield 126, 3) := by decide +kernel
theorem dX12_readPeople_30 : decode cX12_readPeople 30 = .ok (.iconst 1, 1) := by decide +kernel
theorem dX12_readPeople_31 : decode cX12_readPeople 31 = .ok (.iadd, 1) := by decide +kernel
theorem dX12_readPeople_32 : decode cX12_readPeople 32 = .ok (.putfield 126, 3) := by decide +kernel
theorem dX12_readPeople_35 : decode cX12_readPeople 35 = .ok (.iload_n 3, 1) := by decide +kernel
theorem dX12_readPeople_36 : decode cX12_readPeople 36 = .ok (.istore_n 2, 1) := by decide +kernel
theorem dX12_readPeople_37 : decode cX12_readPeople 37 = .ok (.aload_n 0, 1) := by decide +kernel
theorem dX12_readPeople_38 : decode cX12_readPeople 38 = .ok (.iload_n 2, 1) := by decide +kernel
theorem dX12_readPeople_39 : decode cX12_readPeople 39 = .ok (.aload_n 0, 1) := by decide +kernel
theorem dX12_readPeople_40 : decode cX12_readPeople 40 = .ok (.getfield 112, 3) := by decide +kernel
theorem dX12_readPeople_43 : decode cX12_readPeople 43 = .ok (.if_icmp .ne 7, 3) := by decide +kernel
theorem dX12_readPeople_46 : decode cX12_readPeople 46 = .ok (.iconst 1, 1) := by decide +kernel
theorem dX12_readPeople_47 : decode cX12_readPeople 47 = .ok (.goto 4, 3) := by decide +kernel
theorem dX12_readPeople_50 : decode cX12_readPeople 50 = .ok (.iconst 0, 1) := by decide +kernel
theorem dX12_readPeople_51 : decode cX12_readPeople 51 = .ok (.putfield 132, 3) := by decide +kernel
theorem dX12_readPeople_54 : decode cX12_readPeople 54 = .ok (.aload_n 0, 1) := by decide +kernel
theorem dX12_readPeople_55 : decode cX12_readPeople 55 = .ok (.getfield 126, 3) := by decide +kernel
theorem dX12_readPeople_58 : decode cX12_readPeople 58 = .ok (.iconst 5, 1) := by decide +kernel
theorem dX12_readPeople_59 : decode cX12_readPeople 59 = .ok (.if_icmp .eq 13, 3) := by decide +kernel
theorem dX12_readPeople_62 : decode cX12_readPeople 62 = .ok (.aload_n 0, 1) := by decide +kernel
theorem dX12_readPeople_63 : decode cX12_readPeople 63 = .ok (.iload_n 2, 1) := by decide +kernel
theorem dX12_readPeople_64 : decode cX12_readPeople 64 = .ok (.invokevirtual 116, 3) := by decide +kernel
theorem dX12_readPeople_67 : decode cX12_readPeople 67 = .ok (.bipush 44, 2) := by decide +kernel
theorem dX12_readPeople_69 : decode cX12_readPeople 69 = .ok (.if_icmp .eq 5, 3) := by decide +kernel
theorem dX12_readPeople_72 : decode cX12_readPeople 72 = .ok (.iload_n 2, 1) := by decide +kernel
theorem dX12_readPeople_73 : decode cX12_readPeople 73 = .ok (.ireturn, 1) := by decide +kernel
theorem dX12_readPeople_74 : decode cX12_readPeople 74 = .ok (.iinc 2 1, 3) := by decide +kernel
theorem dX12_readPeople_77 : decode cX12_readPeople 77 = .ok (.goto (-75), 3) := by decide +kernel
theorem dX12_readPeople_80 : decode cX12_readPeople 80 = .ok (.iload_n 2, 1) := by decide +kernel
theorem dX12_readPeople_81 : decode cX12_readPeople 81 = .ok (.ireturn, 1) := by decide +kernel
set_option maxRecDepth 20000 in
theorem ggX12_read_X12_isFigure : GoodIn wsX12_read wsX12_isFigure := goodIn_r _ [8, 9, 10, 11, 7, 12, 13, 14, 15, 16, 17, 33, 34, 35, 36, 37, 38, 39, 40, 41, 42, 43, 44, 45, 46, 47, 48, 49, 50, 51, 52, 53, 54, 55, 56, 57, 58, 59, 60, 61, 62, 63, 64, 65, 66, 67, 68, 69, 70, 71, 72, 73, 74, 75, 76, 77, 78, 79, 80, 81] (by decide +kernel) (by decide +kernel)
set_option maxRecDepth 20000 in
theorem gX12_read_X12_isFigure : GoodIn wsX12_read (wsV RX12 120 RX12 yX12_isFigure wsX12_isFigure) := goodIn_app (goodIn_of _ (by decide +kernel)) ggX12_read_X12_isFigure
set_option maxRecDepth 20000 in
theorem ggX12_read_X12_at : GoodIn wsX12_read wsX12_at := goodIn_r _ [12, 13, 14, 33, 34, 35, 36, 37, 38, 39, 40, 41, 42, 43, 44, 45, 46, 47, 48, 49, 50, 51, 52, 53, 54, 55, 56, 57, 58, 59, 60, 61, 62, 63, 64, 65, 66, 67, 68, 69, 70, 71, 72, 73, 74, 75, 76, 77, 78, 79, 80, 81] (by decide +kernel) (by decide +kernel)
set_option maxRecDepth 20000 in
theorem gX12_read_X12_at : GoodIn wsX12_read (wsV RX12 116 RX12 yX12_at wsX12_at) := goodIn_app (goodIn_of _ (by decide +kernel)) ggX12_read_X12_at
set_option maxRecDepth 20000 in
theorem ggX12_read_X12_readPassage : GoodIn wsX12_read wsX12_readPassage := goodIn_r _ [21, 4, 5, 6, 7, 8, 9, 10, 11, 12, 13, 14, 15, 16, 17, 33, 34, 35, 36, 37, 38, 39, 40, 41, 42, 43, 44, 45, 46, 47, 48, 49, 50, 51, 52, 53, 54, 55, 56, 57, 58, 59, 60, 61, 62, 63, 64, 65, 66, 67, 68, 69, 70, 71, 72, 73, 74, 75, 76, 77, 78, 79, 80, 81] (by decide +kernel) (by decide +kernel)
set_option maxRecDepth 20000 in
theorem gX12_read_X12_readPassage : GoodIn wsX12_read (wsV RX12 139 RX12 yX12_readPassage wsX12_readPassage) := goodIn_app (goodIn_of _ (by decide +kernel)) ggX12_read_X12_readPassage
set_option maxRecDepth 20000 in
theorem ggX12_read_X12_readPeople : GoodIn wsX12_read wsX12_readPeople := goodIn_r _ [25, 3, 13, 1, 26, 27, 28, 7, 29, 9, 10, 11, 12, 14, 30, 31, 32, 4, 5, 6, 8, 15, 16, 17, 33, 34, 35, 36, 37, 38, 39, 40, 41, 42, 43, 44, 45, 46, 47, 48, 49, 50, 51, 52, 53, 54, 55, 56, 57, 58, 59, 60, 61, 62, 63, 64, 65, 66, 67, 68, 69, 70, 71, 72, 73, 74, 75, 76, 77, 78, 79, 80, 81] (by decide +kernel) (by decide +kernel)
set_option maxRecDepth 20000 in
theorem gX12_read_X12_readPeople : GoodIn wsX12_read (wsV RX12 143 RX12 yX12_readPeople wsX12_readPeople) := goodIn_app (goodIn_of _ (by decide +kernel)) ggX12_read_X12_readPeople
theorem dX12_read_0 : decode cX12_read 0 = .ok (.aload_n 0, 1) := by decide +kernel
theorem dX12_read_1 : decode cX12_read 1 = .ok (.iconst 0, 1) := by decide +kernel
theorem dX12_read_2 : decode cX12_read 2 = .ok (.putfield 132, 3) := by decide +kernel
theorem dX12_read_5 : decode cX12_read 5 = .ok (.aload_n 0, 1) := by decide +kernel
theorem dX12_read_6 : decode cX12_read 6 = .ok (.iconst 0, 1) := by decide +kernel
theorem dX12_read_7 : decode cX12_read 7 = .ok (.putfield 136, 3) := by decide +kernel
theorem dX12_read_10 : decode cX12_read 10 = .ok (.aload_n 0, 1) := by decide +kernel
theorem dX12_read_11 : decode cX12_read 11 = .ok (.iconst 0, 1) := by decide +kernel
theorem dX12_read_12 : decode cX12_read 12 = .ok (.putfield 126, 3) := by decide +kernel
theorem dX12_read_15 : decode cX12_read 15 = .ok (.aload_n 0, 1) := by decide +kernel
theorem dX12_read_16 : decode cX12_read 16 = .ok (.iconst 0, 1) := by decide +kernel
theorem dX12_read_17 : decode cX12_read 17 = .ok (.iconst 2, 1) := by decide +kernel
theorem dX12_read_18 : decode cX12_read 18 = .ok (.iconst 5, 1) := by decide +kernel
theorem dX12_read_19 : decode cX12_read 19 = .ok (.invokevirtual 120, 3) := by decide +kernel
theorem dX12_read_22 : decode cX12_read 22 = .ok (.ifCond .ne 5, 3) := by decide +kernel
theorem dX12_read_25 : decode cX12_read 25 = .ok (.iconst 0, 1) := by decide +kernel
theorem dX12_read_26 : decode cX12_read 26 = .ok (.ireturn, 1) := by decide +kernel
theorem dX12_read_27 : decode cX12_read 27 = .ok (.aload_n 0, 1) := by decide +kernel
theorem dX12_read_28 : decode cX12_read 28 = .ok (.iconst 1, 1) := by decide +kernel
theorem dX12_read_29 : decode cX12_read 29 = .ok (.invokevirtual 116, 3) := by decide +kernel
theorem dX12_read_32 : decode cX12_read 32 = .ok (.bipush 59, 2) := by decide +kernel
theorem dX12_read_34 : decode cX12_read 34 = .ok (.if_icmp .eq 5, 3) := by decide +kernel
theorem dX12_read_37 : decode cX12_read 37 = .ok (.iconst 1, 1) := by decide +kernel
theorem dX12_read_38 : decode cX12_read 38 = .ok (.ireturn, 1) := by decide +kernel
theorem dX12_read_39 : decode cX12_read 39 = .ok (.iconst 2, 1) := by decide +kernel
theorem dX12_read_40 : decode cX12_read 40 = .ok (.istore_n 1, 1) := by decide +kernel
theorem dX12_read_41 : decode cX12_read 41 = .ok (.aload_n 0, 1) := by decide +kernel
theorem dX12_read_42 : decode cX12_read 42 = .ok (.getfield 136, 3) := by decide +kernel
theorem dX12_read_45 : decode cX12_read 45 = .ok (.bipush 7, 2) := by decide +kernel
theorem dX12_read_47 : decode cX12_read 47 = .ok (.if_icmp .ge 83, 3) := by decide +kernel
theorem dX12_read_50 : decode cX12_read 50 = .ok (.aload_n 0, 1) := by decide +kernel
theorem dX12_read_51 : decode cX12_read 51 = .ok (.iload_n 1, 1) := by decide +kernel
theorem dX12_read_52 : decode cX12_read 52 = .ok (.aload_n 0, 1) := by decide +kernel
theorem dX12_read_53 : decode cX12_read 53 = .ok (.iconst 0, 1) := by decide +kernel
theorem dX12_read_54 : decode cX12_read 54 = .ok (.invokevirtual 116, 3) := by decide +kernel
theorem dX12_read_57 : decode cX12_read 57 = .ok (.bipush 49, 2) := by decide +kernel
theorem dX12_read_59 : decode cX12_read 59 = .ok (.isub, 1) := by decide +kernel
theorem dX12_read_60 : decode cX12_read 60 = .ok (.invokevirtual 139, 3) := by decide +kernel
theorem dX12_read_63 : decode cX12_read 63 = .ok (.istore_n 2, 1) := by decide +kernel
theorem dX12_read_64 : decode cX12_read 64 = .ok (.iload_n 2, 1) := by decide +kernel
theorem dX12_read_65 : decode cX12_read 65 = .ok (.iload_n 1, 1) := by decide +kernel
theorem dX12_read_66 : decode cX12_read 66 = .ok (.iconst 3, 1) := by decide +kernel
theorem dX12_read_67 : decode cX12_read 67 = .ok (.iadd, 1) := by decide +kernel
theorem dX12_read_68 : decode cX12_read 68 = .ok (.if_icmp .eq 5, 3) := by decide +kernel
theorem dX12_read_71 : decode cX12_read 71 = .ok (.iload_n 2, 1) := by decide +kernel
theorem dX12_read_72 : decode cX12_read 72 = .ok (.ireturn, 1) := by decide +kernel
theorem dX12_read_73 : decode cX12_read 73 = .ok (.aload_n 0, 1) := by decide +kernel
theorem dX12_read_74 : decode cX12_read 74 = .ok (.dup, 1) := by decide +kernel
theorem dX12_read_75 : decode cX12_read 75 = .ok (.getfield 136, 3) := by decide +kernel
theorem dX12_read_78 : decode cX12_read 78 = .ok (.iconst 1, 1) := by decide +kernel
theorem dX12_read_79 : decode cX12_read 79 = .ok (.iadd, 1) := by decide +kernel
theorem dX12_read_80 : decode cX12_read 80 = .ok (.putfield 136, 3) := by decide +kernel
theorem dX12_read_83 : decode cX12_read 83 = .ok (.iload_n 2, 1) := by decide +kernel
theorem dX12_read_84 : decode cX12_read 84 = .ok (.istore_n 1, 1) := by decide +kernel
theorem dX12_read_85 : decode cX12_read 85 = .ok (.aload_n 0, 1) := by decide +kernel
theorem dX12_read_86 : decode cX12_read 86 = .ok (.iload_n 1, 1) := by decide +kernel
theorem dX12_read_87 : decode cX12_read 87 = .ok (.invokevirtual 116, 3) := by decide +kernel
theorem dX12_read_90 : decode cX12_read 90 = .ok (.bipush 59, 2) := by decide +kernel
theorem dX12_read_92 : decode cX12_read 92 = .ok (.if_icmp .ne 11, 3) := by decide +kernel
theorem dX12_read_95 : decode cX12_read 95 = .ok (.aload_n 0, 1) := by decide +kernel
theorem dX12_read_96 : decode cX12_read 96 = .ok (.iload_n 1, 1) := by decide +kernel
theorem dX12_read_97 : decode cX12_read 97 = .ok (.iconst 1, 1) := by decide +kernel
theorem dX12_read_98 : decode cX12_read 98 = .ok (.iadd, 1) := by decide +kernel
theorem dX12_read_99 : decode cX12_read 99 = .ok (.invokevirtual 143, 3) := by decide +kernel
theorem dX12_read_102 : decode cX12_read 102 = .ok (.ireturn, 1) := by decide +kernel
theorem dX12_read_103 : decode cX12_read 103 = .ok (.aload_n 0, 1) := by decide +kernel
theorem dX12_read_104 : decode cX12_read 104 = .ok (.getfield 136, 3) := by decide +kernel
theorem dX12_read_107 : decode cX12_read 107 = .ok (.bipush 7, 2) := by decide +kernel
theorem dX12_read_109 : decode cX12_read 109 = .ok (.if_icmp .eq 13, 3) := by decide +kernel
theorem dX12_read_112 : decode cX12_read 112 = .ok (.aload_n 0, 1) := by decide +kernel
theorem dX12_read_113 : decode cX12_read 113 = .ok (.iload_n 1, 1) := by decide +kernel
theorem dX12_read_114 : decode cX12_read 114 = .ok (.invokevirtual 116, 3) := by decide +kernel
theorem dX12_read_117 : decode cX12_read 117 = .ok (.bipush 44, 2) := by decide +kernel
theorem dX12_read_119 : decode cX12_read 119 = .ok (.if_icmp .eq 5, 3) := by decide +kernel
theorem dX12_read_122 : decode cX12_read 122 = .ok (.iload_n 1, 1) := by decide +kernel
theorem dX12_read_123 : decode cX12_read 123 = .ok (.ireturn, 1) := by decide +kernel
theorem dX12_read_124 : decode cX12_read 124 = .ok (.iinc 1 1, 3) := by decide +kernel
theorem dX12_read_127 : decode cX12_read 127 = .ok (.goto (-86), 3) := by decide +kernel
theorem dX12_read_130 : decode cX12_read 130 = .ok (.iload_n 1, 1) := by decide +kernel
theorem dX12_read_131 : decode cX12_read 131 = .ok (.ireturn, 1) := by decide +kernel
set_option maxRecDepth 20000 in
theorem ggX12_fault_X12_read : GoodIn wsX12_fault wsX12_read := goodIn_r _ [5, 6, 7, 8, 9, 10, 11, 4, 12, 13, 14, 15, 16, 17, 18, 19, 20, 21, 22, 23, 24, 25, 26, 27, 28, 29, 30, 31, 32, 33, 34, 35, 36, 37, 38, 39, 40, 41, 42, 43, 44, 45, 46, 47, 48, 49, 50, 51, 52, 53, 54, 55, 56, 57, 58, 59, 60, 61, 62, 63, 64, 65, 66, 67, 68, 69, 70, 71, 72, 73, 74, 75, 76, 77, 78, 79, 80, 81, 82, 83, 84, 85] (by decide +kernel) (by decide +kernel)
set_option maxRecDepth 20000 in
theorem gX12_fault_X12_read : GoodIn wsX12_fault (wsV RX12 146 RX12 yX12_read wsX12_read) := goodIn_app (goodIn_of _ (by decide +kernel)) ggX12_fault_X12_read
theorem dX12_fault_0 : decode cX12_fault 0 = .ok (.aload_n 0, 1) := by decide +kernel
theorem dX12_fault_1 : decode cX12_fault 1 = .ok (.invokevirtual 146, 3) := by decide +kernel
theorem dX12_fault_4 : decode cX12_fault 4 = .ok (.ireturn, 1) := by decide +kernel
set_option maxRecDepth 20000 in
theorem ggX12_ministry_X12_read : GoodIn wsX12_ministry wsX12_read := goodIn_r _ [24, 1, 4, 6, 25, 26, 27, 23, 28, 29, 30, 31, 32, 19, 2, 33, 34, 35, 36, 37, 38, 39, 40, 41, 42, 43, 44, 45, 46, 47, 48, 49, 50, 51, 52, 53, 54, 55, 56, 57, 58, 59, 60, 61, 62, 63, 64, 65, 66, 67, 68, 69, 70, 71, 72, 73, 74, 75, 76, 77, 78, 79, 80, 81, 82, 83, 84, 85, 86, 87, 88, 89, 90, 91, 92, 93, 94, 95, 96, 97, 98, 99] (by decide +kernel) (by decide +kernel)
set_option maxRecDepth 20000 in
theorem gX12_ministry_X12_read : GoodIn wsX12_ministry (wsV RX12 146 RX12 yX12_read wsX12_read) := goodIn_app (goodIn_of _ (by decide +kernel)) ggX12_ministry_X12_read
set_option maxRecDepth 20000 in
theorem ggX12_ministry_X12_kindBy : GoodIn wsX12_ministry wsX12_kindBy := goodIn_r _ [50] (by decide +kernel) (by decide +kernel)
set_option maxRecDepth 20000 in
theorem gX12_ministry_X12_kindBy : GoodIn wsX12_ministry (va_wsS RX12 123 yX12_kindBy wsX12_kindBy) := goodIn_app (goodIn_of _ (by decide +kernel)) ggX12_ministry_X12_kindBy
theorem dX12_ministry_0 : decode cX12_ministry 0 = .ok (.aload_n 0, 1) := by decide +kernel
theorem dX12_ministry_1 : decode cX12_ministry 1 = .ok (.invokevirtual 146, 3) := by decide +kernel
theorem dX12_ministry_4 : decode cX12_ministry 4 = .ok (.pop, 1) := by decide +kernel
theorem dX12_ministry_5 : decode cX12_ministry 5 = .ok (.aload_n 0, 1) := by decide +kernel
theorem dX12_ministry_6 : decode cX12_ministry 6 = .ok (.getfield 132, 3) := by decide +kernel
theorem dX12_ministry_9 : decode cX12_ministry 9 = .ok (.ifCond .ne 6, 3) := by decide +kernel
theorem dX12_ministry_12 : decode cX12_ministry 12 = .ok (.bipush (-103), 2) := by decide +kernel
theorem dX12_ministry_14 : decode cX12_ministry 14 = .ok (.ireturn, 1) := by decide +kernel
theorem dX12_ministry_15 : decode cX12_ministry 15 = .ok (.aload_n 0, 1) := by decide +kernel
theorem dX12_ministry_16 : decode cX12_ministry 16 = .ok (.aload_n 0, 1) := by decide +kernel
theorem dX12_ministry_17 : decode cX12_ministry 17 = .ok (.getfield 46, 3) := by decide +kernel
theorem dX12_ministry_20 : decode cX12_ministry 20 = .ok (.iconst 0, 1) := by decide +kernel
theorem dX12_ministry_21 : decode cX12_ministry 21 = .ok (.baload, 1) := by decide +kernel
theorem dX12_ministry_22 : decode cX12_ministry 22 = .ok (.bipush 48, 2) := by decide +kernel
theorem dX12_ministry_24 : decode cX12_ministry 24 = .ok (.isub, 1) := by decide +kernel
theorem dX12_ministry_25 : decode cX12_ministry 25 = .ok (.putfield 150, 3) := by decide +kernel
theorem dX12_ministry_28 : decode cX12_ministry 28 = .ok (.aload_n 0, 1) := by decide +kernel
theorem dX12_ministry_29 : decode cX12_ministry 29 = .ok (.aload_n 0, 1) := by decide +kernel
theorem dX12_ministry_30 : decode cX12_ministry 30 = .ok (.getfield 136, 3) := by decide +kernel
theorem dX12_ministry_33 : decode cX12_ministry 33 = .ok (.putfield 153, 3) := by decide +kernel
theorem dX12_ministry_36 : decode cX12_ministry 36 = .ok (.aload_n 0, 1) := by decide +kernel
theorem dX12_ministry_37 : decode cX12_ministry 37 = .ok (.aload_n 0, 1) := by decide +kernel
theorem dX12_ministry_38 : decode cX12_ministry 38 = .ok (.getfield 126, 3) := by decide +kernel
theorem dX12_ministry_41 : decode cX12_ministry 41 = .ok (.putfield 156, 3) := by decide +kernel
theorem dX12_ministry_44 : decode cX12_ministry 44 = .ok (.iconst 0, 1) := by decide +kernel
theorem dX12_ministry_45 : decode cX12_ministry 45 = .ok (.istore_n 1, 1) := by decide +kernel
theorem dX12_ministry_46 : decode cX12_ministry 46 = .ok (.iload_n 1, 1) := by decide +kernel
theorem dX12_ministry_47 : decode cX12_ministry 47 = .ok (.aload_n 0, 1) := by decide +kernel
theorem dX12_ministry_48 : decode cX12_ministry 48 = .ok (.getfield 153, 3) := by decide +kernel
theorem dX12_ministry_51 : decode cX12_ministry 51 = .ok (.if_icmp .ge 66, 3) := by decide +kernel
theorem dX12_ministry_54 : decode cX12_ministry 54 = .ok (.aload_n 0, 1) := by decide +kernel
theorem dX12_ministry_55 : decode cX12_ministry 55 = .ok (.getfield 7, 3) := by decide +kernel
theorem dX12_ministry_58 : decode cX12_ministry 58 = .ok (.iload_n 1, 1) := by decide +kernel
theorem dX12_ministry_59 : decode cX12_ministry 59 = .ok (.aload_n 0, 1) := by decide +kernel
theorem dX12_ministry_60 : decode cX12_ministry 60 = .ok (.getfield 46, 3) := by decide +kernel
theorem dX12_ministry_63 : decode cX12_ministry 63 = .ok (.iconst 2, 1) := by decide +kernel
theorem dX12_ministry_64 : decode cX12_ministry 64 = .ok (.iconst 4, 1) := by decide +kernel
theorem dX12_ministry_65 : decode cX12_ministry 65 = .ok (.iload_n 1, 1) := by decide +kernel
theorem dX12_ministry_66 : decode cX12_ministry 66 = .ok (.imul, 1) := by decide +kernel
theorem dX12_ministry_67 : decode cX12_ministry 67 = .ok (.iadd, 1) := by decide +kernel
theorem dX12_ministry_68 : decode cX12_ministry 68 = .ok (.baload, 1) := by decide +kernel
theorem dX12_ministry_69 : decode cX12_ministry 69 = .ok (.bipush 48, 2) := by decide +kernel
theorem dX12_ministry_71 : decode cX12_ministry 71 = .ok (.isub, 1) := by decide +kernel
theorem dX12_ministry_72 : decode cX12_ministry 72 = .ok (.iastore, 1) := by decide +kernel
theorem dX12_ministry_73 : decode cX12_ministry 73 = .ok (.aload_n 0, 1) := by decide +kernel
theorem dX12_ministry_74 : decode cX12_ministry 74 = .ok (.getfield 13, 3) := by decide +kernel
theorem dX12_ministry_77 : decode cX12_ministry 77 = .ok (.iload_n 1, 1) := by decide +kernel
theorem dX12_ministry_78 : decode cX12_ministry 78 = .ok (.aload_n 0, 1) := by decide +kernel
theorem dX12_ministry_79 : decode cX12_ministry 79 = .ok (.getfield 46, 3) := by decide +kernel
theorem dX12_ministry_82 : decode cX12_ministry 82 = .ok (.iconst 3, 1) := by decide +kernel
theorem dX12_ministry_83 : decode cX12_ministry 83 = .ok (.iconst 4, 1) := by decide +kernel
theorem dX12_ministry_84 : decode cX12_ministry 84 = .ok (.iload_n 1, 1) := by decide +kernel
theorem dX12_ministry_85 : decode cX12_ministry 85 = .ok (.imul, 1) := by decide +kernel
theorem dX12_ministry_86 : decode cX12_ministry 86 = .ok (.iadd, 1) := by decide +kernel
theorem dX12_ministry_87 : decode cX12_ministry 87 = .ok (.baload, 1) := by decide +kernel
theorem dX12_ministry_88 : decode cX12_ministry 88 = .ok (.bipush 48, 2) := by decide +kernel
theorem dX12_ministry_90 : decode cX12_ministry 90 = .ok (.isub, 1) := by decide +kernel
theorem dX12_ministry_91 : decode cX12_ministry 91 = .ok (.iastore, 1) := by decide +kernel
theorem dX12_ministry_92 : decode cX12_ministry 92 = .ok (.aload_n 0, 1) := by decide +kernel
theorem dX12_ministry_93 : decode cX12_ministry 93 = .ok (.getfield 16, 3) := by decide +kernel
theorem dX12_ministry_96 : decode cX12_ministry 96 = .ok (.iload_n 1, 1) := by decide +kernel
theorem dX12_ministry_97 : decode cX12_ministry 97 = .ok (.aload_n 0, 1) := by decide +kernel
theorem dX12_ministry_98 : decode cX12_ministry 98 = .ok (.getfield 46, 3) := by decide +kernel
theorem dX12_ministry_101 : decode cX12_ministry 101 = .ok (.iconst 4, 1) := by decide +kernel
theorem dX12_ministry_102 : decode cX12_ministry 102 = .ok (.iconst 4, 1) := by decide +kernel
theorem dX12_ministry_103 : decode cX12_ministry 103 = .ok (.iload_n 1, 1) := by decide +kernel
theorem dX12_ministry_104 : decode cX12_ministry 104 = .ok (.imul, 1) := by decide +kernel
theorem dX12_ministry_105 : decode cX12_ministry 105 = .ok (.iadd, 1) := by decide +kernel
theorem dX12_ministry_106 : decode cX12_ministry 106 = .ok (.baload, 1) := by decide +kernel
theorem dX12_ministry_107 : decode cX12_ministry 107 = .ok (.bipush 48, 2) := by decide +kernel
theorem dX12_ministry_109 : decode cX12_ministry 109 = .ok (.isub, 1) := by decide +kernel
theorem dX12_ministry_110 : decode cX12_ministry 110 = .ok (.iastore, 1) := by decide +kernel
theorem dX12_ministry_111 : decode cX12_ministry 111 = .ok (.iinc 1 1, 3) := by decide +kernel
theorem dX12_ministry_114 : decode cX12_ministry 114 = .ok (.goto (-68), 3) := by decide +kernel
theorem dX12_ministry_117 : decode cX12_ministry 117 = .ok (.iconst 2, 1) := by decide +kernel
theorem dX12_ministry_118 : decode cX12_ministry 118 = .ok (.iconst 4, 1) := by decide +kernel
theorem dX12_ministry_119 : decode cX12_ministry 119 = .ok (.aload_n 0, 1) := by decide +kernel
theorem dX12_ministry_120 : decode cX12_ministry 120 = .ok (.getfield 153, 3) := by decide +kernel
theorem dX12_ministry_123 : decode cX12_ministry 123 = .ok (.imul, 1) := by decide +kernel
theorem dX12_ministry_124 : decode cX12_ministry 124 = .ok (.iadd, 1) := by decide +kernel
theorem dX12_ministry_125 : decode cX12_ministry 125 = .ok (.istore_n 1, 1) := by decide +kernel
theorem dX12_ministry_126 : decode cX12_ministry 126 = .ok (.iconst 0, 1) := by decide +kernel
theorem dX12_ministry_127 : decode cX12_ministry 127 = .ok (.istore_n 2, 1) := by decide +kernel
theorem dX12_ministry_128 : decode cX12_ministry 128 = .ok (.iload_n 2, 1) := by decide +kernel
theorem dX12_ministry_129 : decode cX12_ministry 129 = .ok (.aload_n 0, 1) := by decide +kernel
theorem dX12_ministry_130 : decode cX12_ministry 130 = .ok (.getfield 156, 3) := by decide +kernel
theorem dX12_ministry_133 : decode cX12_ministry 133 = .ok (.if_icmp .ge 84, 3) := by decide +kernel
theorem dX12_ministry_136 : decode cX12_ministry 136 = .ok (.aload_n 0, 1) := by decide +kernel
theorem dX12_ministry_137 : decode cX12_ministry 137 = .ok (.getfield 19, 3) := by decide +kernel
theorem dX12_ministry_140 : decode cX12_ministry 140 = .ok (.iload_n 2, 1) := by decide +kernel
theorem dX12_ministry_141 : decode cX12_ministry 141 = .ok (.aload_n 0, 1) := by decide +kernel
theorem dX12_ministry_142 : decode cX12_ministry 142 = .ok (.getfield 46, 3) := by decide +kernel
theorem dX12_ministry_145 : decode cX12_ministry 145 = .ok (.iload_n 1, 1) := by decide +kernel
theorem dX12_ministry_146 : decode cX12_ministry 146 = .ok (.iconst 4, 1) := by decide +kernel
theorem dX12_ministry_147 : decode cX12_ministry 147 = .ok (.iload_n 2, 1) := by decide +kernel
theorem dX12_ministry_148 : decode cX12_ministry 148 = .ok (.imul, 1) := by decide +kernel
theorem dX12_ministry_149 : decode cX12_ministry 149 = .ok (.iadd, 1) := by decide +kernel
theorem dX12_ministry_150 : decode cX12_ministry 150 = .ok (.baload, 1) := by decide +kernel
theorem dX12_ministry_151 : decode cX12_ministry 151 = .ok (.invokestatic 123, 3) := by decide +kernel
theorem dX12_ministry_154 : decode cX12_ministry 154 = .ok (.iastore, 1) := by decide +kernel
theorem dX12_ministry_155 : decode cX12_ministry 155 = .ok (.aload_n 0, 1) := by decide +kernel
theorem dX12_ministry_156 : decode cX12_ministry 156 = .ok (.getfield 22, 3) := by decide +kernel
theorem dX12_ministry_159 : decode cX12_ministry 159 = .ok (.iload_n 2, 1) := by decide +kernel
theorem dX12_ministry_160 : decode cX12_ministry 160 = .ok (.aload_n 0, 1) := by decide +kernel
theorem dX12_ministry_161 : decode cX12_ministry 161 = .ok (.getfield 46, 3) := by decide +kernel
theorem dX12_ministry_164 : decode cX12_ministry 164 = .ok (.iload_n 1, 1) := by decide +kernel
theorem dX12_ministry_165 : decode cX12_ministry 165 = .ok (.iconst 4, 1) := by decide +kernel
theorem dX12_ministry_166 : decode cX12_ministry 166 = .ok (.iload_n 2, 1) := by decide +kernel
theorem dX12_ministry_167 : decode cX12_ministry 167 = .ok (.imul, 1) := by decide +kernel
theorem dX12_ministry_168 : decode cX12_ministry 168 = .ok (.iadd, 1) := by decide +kernel
theorem dX12_ministry_169 : decode cX12_ministry 169 = .ok (.iconst 1, 1) := by decide +kernel
theorem dX12_ministry_170 : decode cX12_ministry 170 = .ok (.iadd, 1) := by decide +kernel
theorem dX12_ministry_171 : decode cX12_ministry 171 = .ok (.baload, 1) := by decide +kernel
theorem dX12_ministry_172 : decode cX12_ministry 172 = .ok (.bipush 48, 2) := by decide +kernel
theorem dX12_ministry_174 : decode cX12_ministry 174 = .ok (.isub, 1) := by decide +kernel
theorem dX12_ministry_175 : decode cX12_ministry 175 = .ok (.iastore, 1) := by decide +kernel
theorem dX12_ministry_176 : decode cX12_ministry 176 = .ok (.aload_n 0, 1) := by decide +kernel
theorem dX12_ministry_177 : decode cX12_ministry 177 = .ok (.getfield 25, 3) := by decide +kernel
theorem dX12_ministry_180 : decode cX12_ministry 180 = .ok (.iload_n 2, 1) := by decide +kernel
theorem dX12_ministry_181 : decode cX12_ministry 181 = .ok (.aload_n 0, 1) := by decide +kernel
theorem dX12_ministry_182 : decode cX12_ministry 182 = .ok (.getfield 46, 3) := by decide +kernel
theorem dX12_ministry_185 : decode cX12_ministry 185 = .ok (.iload_n 1, 1) := by decide +kernel
theorem dX12_ministry_186 : decode cX12_ministry 186 = .ok (.iconst 4, 1) := by decide +kernel
theorem dX12_ministry_187 : decode cX12_ministry 187 = .ok (.iload_n 2, 1) := by decide +kernel
theorem dX12_ministry_188 : decode cX12_ministry 188 = .ok (.imul, 1) := by decide +kernel
theorem dX12_ministry_189 : decode cX12_ministry 189 = .ok (.iadd, 1) := by decide +kernel
theorem dX12_ministry_190 : decode cX12_ministry 190 = .ok (.iconst 2, 1) := by decide +kernel
theorem dX12_ministry_191 : decode cX12_ministry 191 = .ok (.iadd, 1) := by decide +kernel
theorem dX12_ministry_192 : decode cX12_ministry 192 = .ok (.baload, 1) := by decide +kernel
theorem dX12_ministry_193 : decode cX12_ministry 193 = .ok (.bipush 48, 2) := by decide +kernel
theorem dX12_ministry_195 : decode cX12_ministry 195 = .ok (.isub, 1) := by decide +kernel
theorem dX12_ministry_196 : decode cX12_ministry 196 = .ok (.iastore, 1) := by decide +kernel
theorem dX12_ministry_197 : decode cX12_ministry 197 = .ok (.aload_n 0, 1) := by decide +kernel
theorem dX12_ministry_198 : decode cX12_ministry 198 = .ok (.getfield 28, 3) := by decide +kernel
theorem dX12_ministry_201 : decode cX12_ministry 201 = .ok (.iload_n 2, 1) := by decide +kernel
theorem dX12_ministry_202 : decode cX12_ministry 202 = .ok (.iconst 0, 1) := by decide +kernel
theorem dX12_ministry_203 : decode cX12_ministry 203 = .ok (.iastore, 1) := by decide +kernel
theorem dX12_ministry_204 : decode cX12_ministry 204 = .ok (.aload_n 0, 1) := by decide +kernel
theorem dX12_ministry_205 : decode cX12_ministry 205 = .ok (.getfield 31, 3) := by decide +kernel
theorem dX12_ministry_208 : decode cX12_ministry 208 = .ok (.iload_n 2, 1) := by decide +kernel
theorem dX12_ministry_209 : decode cX12_ministry 209 = .ok (.iconst 0, 1) := by decide +kernel
theorem dX12_ministry_210 : decode cX12_ministry 210 = .ok (.iastore, 1) := by decide +kernel
theorem dX12_ministry_211 : decode cX12_ministry 211 = .ok (.iinc 2 1, 3) := by decide +kernel
theorem dX12_ministry_214 : decode cX12_ministry 214 = .ok (.goto (-86), 3) := by decide +kernel
theorem dX12_ministry_217 : decode cX12_ministry 217 = .ok (.aload_n 0, 1) := by decide +kernel
theorem dX12_ministry_218 : decode cX12_ministry 218 = .ok (.iconst 0, 1) := by decide +kernel
theorem dX12_ministry_219 : decode cX12_ministry 219 = .ok (.putfield 159, 3) := by decide +kernel
theorem dX12_ministry_222 : decode cX12_ministry 222 = .ok (.aload_n 0, 1) := by decide +kernel
theorem dX12_ministry_223 : decode cX12_ministry 223 = .ok (.dup, 1) := by decide +kernel
theorem dX12_ministry_224 : decode cX12_ministry 224 = .ok (.getfield 162, 3) := by decide +kernel
theorem dX12_ministry_227 : decode cX12_ministry 227 = .ok (.iconst 1, 1) := by decide +kernel
theorem dX12_ministry_228 : decode cX12_ministry 228 = .ok (.iadd, 1) := by decide +kernel
theorem dX12_ministry_229 : decode cX12_ministry 229 = .ok (.putfield 162, 3) := by decide +kernel
theorem dX12_ministry_232 : decode cX12_ministry 232 = .ok (.aload_n 0, 1) := by decide +kernel
theorem dX12_ministry_233 : decode cX12_ministry 233 = .ok (.iconst 0, 1) := by decide +kernel
theorem dX12_ministry_234 : decode cX12_ministry 234 = .ok (.putfield 165, 3) := by decide +kernel
theorem dX12_ministry_237 : decode cX12_ministry 237 = .ok (.aload_n 0, 1) := by decide +kernel
theorem dX12_ministry_238 : decode cX12_ministry 238 = .ok (.iconst 0, 1) := by decide +kernel
theorem dX12_ministry_239 : decode cX12_ministry 239 = .ok (.putfield 112, 3) := by decide +kernel
theorem dX12_ministry_242 : decode cX12_ministry 242 = .ok (.aload_n 0, 1) := by decide +kernel
theorem dX12_ministry_243 : decode cX12_ministry 243 = .ok (.getfield 156, 3) := by decide +kernel
theorem dX12_ministry_246 : decode cX12_ministry 246 = .ok (.ireturn, 1) := by decide +kernel
set_option maxRecDepth 20000 in
theorem ggX12_isPerson_X12_within : GoodIn wsX12_isPerson wsX12_within := goodIn_r _ [5] (by decide +kernel) (by decide +kernel)
set_option maxRecDepth 20000 in
theorem gX12_isPerson_X12_within : GoodIn wsX12_isPerson (va_wsS RX12 108 yX12_within wsX12_within) := goodIn_app (goodIn_of _ (by decide +kernel)) ggX12_isPerson_X12_within
theorem dX12_isPerson_0 : decode cX12_isPerson 0 = .ok (.iload_n 1, 1) := by decide +kernel
theorem dX12_isPerson_1 : decode cX12_isPerson 1 = .ok (.iconst 0, 1) := by decide +kernel
theorem dX12_isPerson_2 : decode cX12_isPerson 2 = .ok (.aload_n 0, 1) := by decide +kernel
theorem dX12_isPerson_3 : decode cX12_isPerson 3 = .ok (.getfield 156, 3) := by decide +kernel
theorem dX12_isPerson_6 : decode cX12_isPerson 6 = .ok (.iconst 1, 1) := by decide +kernel
theorem dX12_isPerson_7 : decode cX12_isPerson 7 = .ok (.isub, 1) := by decide +kernel
theorem dX12_isPerson_8 : decode cX12_isPerson 8 = .ok (.invokestatic 108, 3) := by decide +kernel
theorem dX12_isPerson_11 : decode cX12_isPerson 11 = .ok (.ireturn, 1) := by decide +kernel
set_option maxRecDepth 20000 in
theorem ggX12_isPassage_X12_within : GoodIn wsX12_isPassage wsX12_within := goodIn_r _ [5] (by decide +kernel) (by decide +kernel)
set_option maxRecDepth 20000 in
theorem gX12_isPassage_X12_within : GoodIn wsX12_isPassage (va_wsS RX12 108 yX12_within wsX12_within) := goodIn_app (goodIn_of _ (by decide +kernel)) ggX12_isPassage_X12_within
theorem dX12_isPassage_0 : decode cX12_isPassage 0 = .ok (.iload_n 1, 1) := by decide +kernel
theorem dX12_isPassage_1 : decode cX12_isPassage 1 = .ok (.iconst 0, 1) := by decide +kernel
theorem dX12_isPassage_2 : decode cX12_isPassage 2 = .ok (.aload_n 0, 1) := by decide +kernel
theorem dX12_isPassage_3 : decode cX12_isPassage 3 = .ok (.getfield 153, 3) := by decide +kernel
theorem dX12_isPassage_6 : decode cX12_isPassage 6 = .ok (.iconst 1, 1) := by decide +kernel
theorem dX12_isPassage_7 : decode cX12_isPassage 7 = .ok (.isub, 1) := by decide +kernel
theorem dX12_isPassage_8 : decode cX12_isPassage 8 = .ok (.invokestatic 108, 3) := by decide +kernel
theorem dX12_isPassage_11 : decode cX12_isPassage 11 = .ok (.ireturn, 1) := by decide +kernel
set_option maxRecDepth 20000 in
theorem ggX12_isRoom_X12_within : GoodIn wsX12_isRoom wsX12_within := goodIn_r _ [5] (by decide +kernel) (by decide +kernel)
set_option maxRecDepth 20000 in
theorem gX12_isRoom_X12_within : GoodIn wsX12_isRoom (va_wsS RX12 108 yX12_within wsX12_within) := goodIn_app (goodIn_of _ (by decide +kernel)) ggX12_isRoom_X12_within
theorem dX12_isRoom_0 : decode cX12_isRoom 0 = .ok (.iload_n 1, 1) := by decide +kernel
theorem dX12_isRoom_1 : decode cX12_isRoom 1 = .ok (.iconst 0, 1) := by decide +kernel
theorem dX12_isRoom_2 : decode cX12_isRoom 2 = .ok (.aload_n 0, 1) := by decide +kernel
theorem dX12_isRoom_3 : decode cX12_isRoom 3 = .ok (.getfield 150, 3) := by decide +kernel
theorem dX12_isRoom_6 : decode cX12_isRoom 6 = .ok (.iconst 1, 1) := by decide +kernel
theorem dX12_isRoom_7 : decode cX12_isRoom 7 = .ok (.isub, 1) := by decide +kernel
theorem dX12_isRoom_8 : decode cX12_isRoom 8 = .ok (.invokestatic 108, 3) := by decide +kernel
theorem dX12_isRoom_11 : decode cX12_isRoom 11 = .ok (.ireturn, 1) := by decide +kernel
set_option maxRecDepth 20000 in
theorem ggX12_isWith_X12_isPerson : GoodIn wsX12_isWith wsX12_isPerson := goodIn_r _ [5, 6, 7, 8, 4, 9, 10, 11, 12, 13, 14, 15, 16, 17, 18, 19, 20, 21, 22, 23, 24, 25, 26, 27, 28, 29, 30, 31, 32, 33, 34, 35, 36, 37, 38, 39, 40, 41, 42, 43, 44, 45, 46, 47, 48, 49, 50, 51, 52, 53, 54, 55, 56, 57, 58] (by decide +kernel) (by decide +kernel)
set_option maxRecDepth 20000 in
theorem gX12_isWith_X12_isPerson : GoodIn wsX12_isWith (wsV RX12 168 RX12 yX12_isPerson wsX12_isPerson) := goodIn_app (goodIn_of _ (by decide +kernel)) ggX12_isWith_X12_isPerson
theorem dX12_isWith_0 : decode cX12_isWith 0 = .ok (.iload_n 2, 1) := by decide +kernel
theorem dX12_isWith_1 : decode cX12_isWith 1 = .ok (.iconst (-1), 1) := by decide +kernel
theorem dX12_isWith_2 : decode cX12_isWith 2 = .ok (.if_icmp .eq 16, 3) := by decide +kernel
theorem dX12_isWith_5 : decode cX12_isWith 5 = .ok (.aload_n 0, 1) := by decide +kernel
theorem dX12_isWith_6 : decode cX12_isWith 6 = .ok (.iload_n 2, 1) := by decide +kernel
theorem dX12_isWith_7 : decode cX12_isWith 7 = .ok (.invokevirtual 168, 3) := by decide +kernel
theorem dX12_isWith_10 : decode cX12_isWith 10 = .ok (.ifCond .eq 12, 3) := by decide +kernel
theorem dX12_isWith_13 : decode cX12_isWith 13 = .ok (.iload_n 2, 1) := by decide +kernel
theorem dX12_isWith_14 : decode cX12_isWith 14 = .ok (.iload_n 1, 1) := by decide +kernel
theorem dX12_isWith_15 : decode cX12_isWith 15 = .ok (.if_icmp .eq 7, 3) := by decide +kernel
theorem dX12_isWith_18 : decode cX12_isWith 18 = .ok (.iconst 1, 1) := by decide +kernel
theorem dX12_isWith_19 : decode cX12_isWith 19 = .ok (.goto 4, 3) := by decide +kernel
theorem dX12_isWith_22 : decode cX12_isWith 22 = .ok (.iconst 0, 1) := by decide +kernel
theorem dX12_isWith_23 : decode cX12_isWith 23 = .ok (.ireturn, 1) := by decide +kernel
theorem dX12_alone_0 : decode cX12_alone 0 = .ok (.aload_n 0, 1) := by decide +kernel
theorem dX12_alone_1 : decode cX12_alone 1 = .ok (.getfield 16, 3) := by decide +kernel
theorem dX12_alone_4 : decode cX12_alone 4 = .ok (.iload_n 2, 1) := by decide +kernel
theorem dX12_alone_5 : decode cX12_alone 5 = .ok (.iaload, 1) := by decide +kernel
theorem dX12_alone_6 : decode cX12_alone 6 = .ok (.aload_n 0, 1) := by decide +kernel
theorem dX12_alone_7 : decode cX12_alone 7 = .ok (.getfield 22, 3) := by decide +kernel
theorem dX12_alone_10 : decode cX12_alone 10 = .ok (.iload_n 1, 1) := by decide +kernel
theorem dX12_alone_11 : decode cX12_alone 11 = .ok (.iaload, 1) := by decide +kernel
theorem dX12_alone_12 : decode cX12_alone 12 = .ok (.iadd, 1) := by decide +kernel
theorem dX12_alone_13 : decode cX12_alone 13 = .ok (.iconst 2, 1) := by decide +kernel
theorem dX12_alone_14 : decode cX12_alone 14 = .ok (.aload_n 0, 1) := by decide +kernel
theorem dX12_alone_15 : decode cX12_alone 15 = .ok (.getfield 25, 3) := by decide +kernel
theorem dX12_alone_18 : decode cX12_alone 18 = .ok (.iload_n 1, 1) := by decide +kernel
theorem dX12_alone_19 : decode cX12_alone 19 = .ok (.iaload, 1) := by decide +kernel
theorem dX12_alone_20 : decode cX12_alone 20 = .ok (.imul, 1) := by decide +kernel
theorem dX12_alone_21 : decode cX12_alone 21 = .ok (.iadd, 1) := by decide +kernel
theorem dX12_alone_22 : decode cX12_alone 22 = .ok (.istore_n 3, 1) := by decide +kernel
theorem dX12_alone_23 : decode cX12_alone 23 = .ok (.iload_n 3, 1) := by decide +kernel
theorem dX12_alone_24 : decode cX12_alone 24 = .ok (.iconst 2, 1) := by decide +kernel
theorem dX12_alone_25 : decode cX12_alone 25 = .ok (.aload_n 0, 1) := by decide +kernel
theorem dX12_alone_26 : decode cX12_alone 26 = .ok (.getfield 22, 3) := by decide +kernel
theorem dX12_alone_29 : decode cX12_alone 29 = .ok (.iload_n 1, 1) := by decide +kernel
theorem dX12_alone_30 : decode cX12_alone 30 = .ok (.iaload, 1) := by decide +kernel
theorem dX12_alone_31 : decode cX12_alone 31 = .ok (.imul, 1) := by decide +kernel
theorem dX12_alone_32 : decode cX12_alone 32 = .ok (.iadd, 1) := by decide +kernel
theorem dX12_alone_33 : decode cX12_alone 33 = .ok (.istore 4, 2) := by decide +kernel
theorem dX12_alone_35 : decode cX12_alone 35 = .ok (.aload_n 0, 1) := by decide +kernel
theorem dX12_alone_36 : decode cX12_alone 36 = .ok (.getfield 19, 3) := by decide +kernel
theorem dX12_alone_39 : decode cX12_alone 39 = .ok (.iload_n 1, 1) := by decide +kernel
theorem dX12_alone_40 : decode cX12_alone 40 = .ok (.iaload, 1) := by decide +kernel
theorem dX12_alone_41 : decode cX12_alone 41 = .ok (.tableswitch 51 1 4 #[31, 37, 40, 46], 31) := by decide +kernel
theorem dX12_alone_72 : decode cX12_alone 72 = .ok (.iload_n 3, 1) := by decide +kernel
theorem dX12_alone_73 : decode cX12_alone 73 = .ok (.iconst 1, 1) := by decide +kernel
theorem dX12_alone_74 : decode cX12_alone 74 = .ok (.iadd, 1) := by decide +kernel
theorem dX12_alone_75 : decode cX12_alone 75 = .ok (.iconst 2, 1) := by decide +kernel
theorem dX12_alone_76 : decode cX12_alone 76 = .ok (.idiv, 1) := by decide +kernel
theorem dX12_alone_77 : decode cX12_alone 77 = .ok (.ireturn, 1) := by decide +kernel
theorem dX12_alone_78 : decode cX12_alone 78 = .ok (.iload 4, 2) := by decide +kernel
theorem dX12_alone_80 : decode cX12_alone 80 = .ok (.ireturn, 1) := by decide +kernel
theorem dX12_alone_81 : decode cX12_alone 81 = .ok (.iload_n 3, 1) := by decide +kernel
theorem dX12_alone_82 : decode cX12_alone 82 = .ok (.iconst 4, 1) := by decide +kernel
theorem dX12_alone_83 : decode cX12_alone 83 = .ok (.iadd, 1) := by decide +kernel
theorem dX12_alone_84 : decode cX12_alone 84 = .ok (.iconst 5, 1) := by decide +kernel
theorem dX12_alone_85 : decode cX12_alone 85 = .ok (.idiv, 1) := by decide +kernel
theorem dX12_alone_86 : decode cX12_alone 86 = .ok (.ireturn, 1) := by decide +kernel
theorem dX12_alone_87 : decode cX12_alone 87 = .ok (.iconst 2, 1) := by decide +kernel
theorem dX12_alone_88 : decode cX12_alone 88 = .ok (.iload 4, 2) := by decide +kernel
theorem dX12_alone_90 : decode cX12_alone 90 = .ok (.imul, 1) := by decide +kernel
theorem dX12_alone_91 : decode cX12_alone 91 = .ok (.ireturn, 1) := by decide +kernel
theorem dX12_alone_92 : decode cX12_alone 92 = .ok (.iload_n 3, 1) := by decide +kernel
theorem dX12_alone_93 : decode cX12_alone 93 = .ok (.ireturn, 1) := by decide +kernel
set_option maxRecDepth 20000 in
theorem ggX12_stepsOf_X12_alone : GoodIn wsX12_stepsOf wsX12_alone := goodIn_r _ [5, 6, 7, 8, 9, 10, 11, 12, 13, 14, 15, 16, 17, 18, 19, 20, 21, 22, 23, 24, 25, 26, 27, 28, 29, 30, 31, 32, 33, 34, 35, 36, 37, 38, 39, 40, 41, 42, 43, 44, 45, 46, 47, 48, 49, 50, 51, 52, 53, 54, 55, 56, 57, 58] (by decide +kernel) (by decide +kernel)
set_option maxRecDepth 20000 in
theorem gX12_stepsOf_X12_alone : GoodIn wsX12_stepsOf (wsV RX12 172 RX12 yX12_alone wsX12_alone) := goodIn_app (goodIn_of _ (by decide +kernel)) ggX12_stepsOf_X12_alone
theorem dX12_stepsOf_0 : decode cX12_stepsOf 0 = .ok (.iload_n 3, 1) := by decide +kernel
theorem dX12_stepsOf_1 : decode cX12_stepsOf 1 = .ok (.iconst (-1), 1) := by decide +kernel
theorem dX12_stepsOf_2 : decode cX12_stepsOf 2 = .ok (.if_icmp .ne 12, 3) := by decide +kernel
theorem dX12_stepsOf_5 : decode cX12_stepsOf 5 = .ok (.aload_n 0, 1) := by decide +kernel
theorem dX12_stepsOf_6 : decode cX12_stepsOf 6 = .ok (.iload_n 1, 1) := by decide +kernel
theorem dX12_stepsOf_7 : decode cX12_stepsOf 7 = .ok (.iload_n 2, 1) := by decide +kernel
theorem dX12_stepsOf_8 : decode cX12_stepsOf 8 = .ok (.invokevirtual 172, 3) := by decide +kernel
theorem dX12_stepsOf_11 : decode cX12_stepsOf 11 = .ok (.goto 20, 3) := by decide +kernel
theorem dX12_stepsOf_14 : decode cX12_stepsOf 14 = .ok (.aload_n 0, 1) := by decide +kernel
theorem dX12_stepsOf_15 : decode cX12_stepsOf 15 = .ok (.iload_n 1, 1) := by decide +kernel
theorem dX12_stepsOf_16 : decode cX12_stepsOf 16 = .ok (.iload_n 2, 1) := by decide +kernel
theorem dX12_stepsOf_17 : decode cX12_stepsOf 17 = .ok (.invokevirtual 172, 3) := by decide +kernel
theorem dX12_stepsOf_20 : decode cX12_stepsOf 20 = .ok (.aload_n 0, 1) := by decide +kernel
theorem dX12_stepsOf_21 : decode cX12_stepsOf 21 = .ok (.iload_n 3, 1) := by decide +kernel
theorem dX12_stepsOf_22 : decode cX12_stepsOf 22 = .ok (.iload_n 2, 1) := by decide +kernel
theorem dX12_stepsOf_23 : decode cX12_stepsOf 23 = .ok (.invokevirtual 172, 3) := by decide +kernel
theorem dX12_stepsOf_26 : decode cX12_stepsOf 26 = .ok (.iadd, 1) := by decide +kernel
theorem dX12_stepsOf_27 : decode cX12_stepsOf 27 = .ok (.iconst 1, 1) := by decide +kernel
theorem dX12_stepsOf_28 : decode cX12_stepsOf 28 = .ok (.iadd, 1) := by decide +kernel
theorem dX12_stepsOf_29 : decode cX12_stepsOf 29 = .ok (.iconst 2, 1) := by decide +kernel
theorem dX12_stepsOf_30 : decode cX12_stepsOf 30 = .ok (.idiv, 1) := by decide +kernel
theorem dX12_stepsOf_31 : decode cX12_stepsOf 31 = .ok (.ireturn, 1) := by decide +kernel
set_option maxRecDepth 20000 in
theorem ggX12_personNow_X12_liesBits : GoodIn wsX12_personNow wsX12_liesBits := goodIn_r _ [10, 11, 12, 13, 14, 15, 16, 17, 18, 9, 19, 3, 20, 21, 22, 23, 24, 25, 26, 27, 28, 2, 1, 43, 44, 45, 46, 47, 48, 49, 50, 51, 52, 53, 54, 55, 56, 57, 58, 59, 60, 61, 62, 63, 64, 65, 66, 67, 68, 69, 70, 71, 72, 73, 74, 75, 76, 77, 78, 79, 80, 81, 82, 83, 84, 85, 86, 87, 88, 89, 90, 91] (by decide +kernel) (by decide +kernel)
set_option maxRecDepth 20000 in
theorem gX12_personNow_X12_liesBits : GoodIn wsX12_personNow (wsV RX12 175 RX12 yX12_liesBits wsX12_liesBits) := goodIn_app (goodIn_of _ (by decide +kernel)) ggX12_personNow_X12_liesBits
set_option maxRecDepth 20000 in
theorem ggX12_personNow_X12_askOf : GoodIn wsX12_personNow wsX12_askOf := goodIn_r _ [32, 33, 34, 35, 6, 7, 8, 9, 10, 11, 12, 13, 14, 15, 16, 17, 18, 19, 3, 20, 21, 22, 23, 24, 25, 26, 27, 28, 2, 1, 36, 37, 38, 39, 40, 41, 42, 43, 44, 45, 46, 47, 48, 49, 50, 51, 52, 53, 54, 55, 56, 57, 58, 59, 60, 61, 62, 63, 64, 65, 66, 67, 68, 69, 70, 71, 72, 73, 74, 75, 76, 77, 78, 79, 80, 81, 82, 83, 84, 85, 86, 87, 88, 89, 90, 91] (by decide +kernel) (by decide +kernel)
set_option maxRecDepth 20000 in
theorem gX12_personNow_X12_askOf : GoodIn wsX12_personNow (wsV RX12 178 RX12 yX12_askOf wsX12_askOf) := goodIn_app (goodIn_of _ (by decide +kernel)) ggX12_personNow_X12_askOf
theorem dX12_personNow_0 : decode cX12_personNow 0 = .ok (.iload_n 2, 1) := by decide +kernel
theorem dX12_personNow_1 : decode cX12_personNow 1 = .ok (.tableswitch 80 0 5 #[39, 46, 53, 60, 67, 74], 39) := by decide +kernel
theorem dX12_personNow_40 : decode cX12_personNow 40 = .ok (.aload_n 0, 1) := by decide +kernel
theorem dX12_personNow_41 : decode cX12_personNow 41 = .ok (.getfield 19, 3) := by decide +kernel
theorem dX12_personNow_44 : decode cX12_personNow 44 = .ok (.iload_n 1, 1) := by decide +kernel
theorem dX12_personNow_45 : decode cX12_personNow 45 = .ok (.iaload, 1) := by decide +kernel
theorem dX12_personNow_46 : decode cX12_personNow 46 = .ok (.ireturn, 1) := by decide +kernel
theorem dX12_personNow_47 : decode cX12_personNow 47 = .ok (.aload_n 0, 1) := by decide +kernel
theorem dX12_personNow_48 : decode cX12_personNow 48 = .ok (.getfield 22, 3) := by decide +kernel
theorem dX12_personNow_51 : decode cX12_personNow 51 = .ok (.iload_n 1, 1) := by decide +kernel
theorem dX12_personNow_52 : decode cX12_personNow 52 = .ok (.iaload, 1) := by decide +kernel
theorem dX12_personNow_53 : decode cX12_personNow 53 = .ok (.ireturn, 1) := by decide +kernel
theorem dX12_personNow_54 : decode cX12_personNow 54 = .ok (.aload_n 0, 1) := by decide +kernel
theorem dX12_personNow_55 : decode cX12_personNow 55 = .ok (.getfield 25, 3) := by decide +kernel
theorem dX12_personNow_58 : decode cX12_personNow 58 = .ok (.iload_n 1, 1) := by decide +kernel
theorem dX12_personNow_59 : decode cX12_personNow 59 = .ok (.iaload, 1) := by decide +kernel
theorem dX12_personNow_60 : decode cX12_personNow 60 = .ok (.ireturn, 1) := by decide +kernel
theorem dX12_personNow_61 : decode cX12_personNow 61 = .ok (.aload_n 0, 1) := by decide +kernel
theorem dX12_personNow_62 : decode cX12_personNow 62 = .ok (.getfield 28, 3) := by decide +kernel
theorem dX12_personNow_65 : decode cX12_personNow 65 = .ok (.iload_n 1, 1) := by decide +kernel
theorem dX12_personNow_66 : decode cX12_personNow 66 = .ok (.iaload, 1) := by decide +kernel
theorem dX12_personNow_67 : decode cX12_personNow 67 = .ok (.ireturn, 1) := by decide +kernel
theorem dX12_personNow_68 : decode cX12_personNow 68 = .ok (.aload_n 0, 1) := by decide +kernel
theorem dX12_personNow_69 : decode cX12_personNow 69 = .ok (.getfield 31, 3) := by decide +kernel
theorem dX12_personNow_72 : decode cX12_personNow 72 = .ok (.iload_n 1, 1) := by decide +kernel
theorem dX12_personNow_73 : decode cX12_personNow 73 = .ok (.iaload, 1) := by decide +kernel
theorem dX12_personNow_74 : decode cX12_personNow 74 = .ok (.ireturn, 1) := by decide +kernel
theorem dX12_personNow_75 : decode cX12_personNow 75 = .ok (.aload_n 0, 1) := by decide +kernel
theorem dX12_personNow_76 : decode cX12_personNow 76 = .ok (.iload_n 1, 1) := by decide +kernel
theorem dX12_personNow_77 : decode cX12_personNow 77 = .ok (.invokevirtual 175, 3) := by decide +kernel
theorem dX12_personNow_80 : decode cX12_personNow 80 = .ok (.ireturn, 1) := by decide +kernel
theorem dX12_personNow_81 : decode cX12_personNow 81 = .ok (.aload_n 0, 1) := by decide +kernel
theorem dX12_personNow_82 : decode cX12_personNow 82 = .ok (.iload_n 1, 1) := by decide +kernel
theorem dX12_personNow_83 : decode cX12_personNow 83 = .ok (.invokevirtual 178, 3) := by decide +kernel
theorem dX12_personNow_86 : decode cX12_personNow 86 = .ok (.ireturn, 1) := by decide +kernel
set_option maxRecDepth 20000 in
theorem ggX12_person_X12_isPerson : GoodIn wsX12_person wsX12_isPerson := goodIn_r _ [5, 6, 7, 8, 4, 9, 54, 55, 56, 57, 58, 59, 60, 61, 62, 63, 64, 65, 66, 67, 68, 69, 70, 71, 72, 73, 74, 75, 76, 77, 78, 79, 80, 81, 82, 83, 84, 85, 86, 87, 88, 89, 90, 91, 92, 93, 94, 95, 96, 97, 98, 99, 100, 101, 102] (by decide +kernel) (by decide +kernel)
set_option maxRecDepth 20000 in
theorem gX12_person_X12_isPerson : GoodIn wsX12_person (wsV RX12 168 RX12 yX12_isPerson wsX12_isPerson) := goodIn_app (goodIn_of _ (by decide +kernel)) ggX12_person_X12_isPerson
set_option maxRecDepth 20000 in
theorem ggX12_person_X12_within : GoodIn wsX12_person wsX12_within := goodIn_r _ [9] (by decide +kernel) (by decide +kernel)
set_option maxRecDepth 20000 in
theorem gX12_person_X12_within : GoodIn wsX12_person (va_wsS RX12 108 yX12_within wsX12_within) := goodIn_app (goodIn_of _ (by decide +kernel)) ggX12_person_X12_within
set_option maxRecDepth 20000 in
theorem ggX12_person_X12_personNow : GoodIn wsX12_person wsX12_personNow := goodIn_r _ [13, 14, 15, 16, 17, 18, 19, 20, 21, 4, 22, 23, 24, 25, 26, 27, 28, 29, 30, 31, 32, 33, 34, 35, 36, 37, 38, 39, 40, 41, 42, 43, 44, 45, 46, 6, 47, 48, 49, 50, 51, 52, 53, 54, 55, 56, 57, 58, 59, 60, 61, 62, 63, 64, 65, 66, 67, 68, 69, 70, 71, 72, 73, 74, 75, 76, 77, 78, 79, 80, 81, 82, 83, 84, 85, 86, 87, 88, 89, 90, 91, 92, 93, 94, 95, 96, 97, 98, 99, 100, 101, 102] (by decide +kernel) (by decide +kernel)
set_option maxRecDepth 20000 in
theorem gX12_person_X12_personNow : GoodIn wsX12_person (wsV RX12 181 RX12 yX12_personNow wsX12_personNow) := goodIn_app (goodIn_of _ (by decide +kernel)) ggX12_person_X12_personNow
theorem dX12_person_0 : decode cX12_person 0 = .ok (.aload_n 0, 1) := by decide +kernel
theorem dX12_person_1 : decode cX12_person 1 = .ok (.iload_n 1, 1) := by decide +kernel
theorem dX12_person_2 : decode cX12_person 2 = .ok (.invokevirtual 168, 3) := by decide +kernel
theorem dX12_person_5 : decode cX12_person 5 = .ok (.ifCond .ne 8, 3) := by decide +kernel
theorem dX12_person_8 : decode cX12_person 8 = .ok (.bipush (-101), 2) := by decide +kernel
theorem dX12_person_10 : decode cX12_person 10 = .ok (.goto 24, 3) := by decide +kernel
theorem dX12_person_13 : decode cX12_person 13 = .ok (.iload_n 2, 1) := by decide +kernel
theorem dX12_person_14 : decode cX12_person 14 = .ok (.iconst 0, 1) := by decide +kernel
theorem dX12_person_15 : decode cX12_person 15 = .ok (.bipush 6, 2) := by decide +kernel
theorem dX12_person_17 : decode cX12_person 17 = .ok (.invokestatic 108, 3) := by decide +kernel
theorem dX12_person_20 : decode cX12_person 20 = .ok (.ifCond .eq 12, 3) := by decide +kernel
theorem dX12_person_23 : decode cX12_person 23 = .ok (.aload_n 0, 1) := by decide +kernel
theorem dX12_person_24 : decode cX12_person 24 = .ok (.iload_n 1, 1) := by decide +kernel
theorem dX12_person_25 : decode cX12_person 25 = .ok (.iload_n 2, 1) := by decide +kernel
theorem dX12_person_26 : decode cX12_person 26 = .ok (.invokevirtual 181, 3) := by decide +kernel
theorem dX12_person_29 : decode cX12_person 29 = .ok (.goto 5, 3) := by decide +kernel
theorem dX12_person_32 : decode cX12_person 32 = .ok (.bipush (-102), 2) := by decide +kernel
theorem dX12_person_34 : decode cX12_person 34 = .ok (.ireturn, 1) := by decide +kernel
set_option maxRecDepth 20000 in
theorem ggX12_as_X12_isPerson : GoodIn wsX12_as wsX12_isPerson := goodIn_r _ [6, 7, 8, 9, 5, 10, 11, 12, 13, 14, 15, 16, 17, 18, 19, 20, 21, 22, 23, 24, 25, 26, 27, 28, 29, 30, 31, 32, 33, 34, 35, 36, 37, 38, 39, 40, 41, 42, 43, 44, 45, 46, 47, 48, 49, 50, 51, 52, 53, 54, 55, 56, 57, 58, 59] (by decide +kernel) (by decide +kernel)
set_option maxRecDepth 20000 in
theorem gX12_as_X12_isPerson : GoodIn wsX12_as (wsV RX12 168 RX12 yX12_isPerson wsX12_isPerson) := goodIn_app (goodIn_of _ (by decide +kernel)) ggX12_as_X12_isPerson
set_option maxRecDepth 20000 in
theorem ggX12_as_X12_within : GoodIn wsX12_as wsX12_within := goodIn_r _ [10] (by decide +kernel) (by decide +kernel)
set_option maxRecDepth 20000 in
theorem gX12_as_X12_within : GoodIn wsX12_as (va_wsS RX12 108 yX12_within wsX12_within) := goodIn_app (goodIn_of _ (by decide +kernel)) ggX12_as_X12_within
theorem dX12_as_0 : decode cX12_as 0 = .ok (.aload_n 0, 1) := by decide +kernel
theorem dX12_as_1 : decode cX12_as 1 = .ok (.iload_n 1, 1) := by decide +kernel
theorem dX12_as_2 : decode cX12_as 2 = .ok (.invokevirtual 168, 3) := by decide +kernel
theorem dX12_as_5 : decode cX12_as 5 = .ok (.ifCond .ne 6, 3) := by decide +kernel
theorem dX12_as_8 : decode cX12_as 8 = .ok (.bipush (-101), 2) := by decide +kernel
theorem dX12_as_10 : decode cX12_as 10 = .ok (.ireturn, 1) := by decide +kernel
theorem dX12_as_11 : decode cX12_as 11 = .ok (.iload_n 2, 1) := by decide +kernel
theorem dX12_as_12 : decode cX12_as 12 = .ok (.iconst 0, 1) := by decide +kernel
theorem dX12_as_13 : decode cX12_as 13 = .ok (.iconst 4, 1) := by decide +kernel
theorem dX12_as_14 : decode cX12_as 14 = .ok (.invokestatic 108, 3) := by decide +kernel
theorem dX12_as_17 : decode cX12_as 17 = .ok (.ifCond .ne 6, 3) := by decide +kernel
theorem dX12_as_20 : decode cX12_as 20 = .ok (.bipush (-102), 2) := by decide +kernel
theorem dX12_as_22 : decode cX12_as 22 = .ok (.ireturn, 1) := by decide +kernel
theorem dX12_as_23 : decode cX12_as 23 = .ok (.aload_n 0, 1) := by decide +kernel
theorem dX12_as_24 : decode cX12_as 24 = .ok (.getfield 19, 3) := by decide +kernel
theorem dX12_as_27 : decode cX12_as 27 = .ok (.iload_n 1, 1) := by decide +kernel
theorem dX12_as_28 : decode cX12_as 28 = .ok (.iaload, 1) := by decide +kernel
theorem dX12_as_29 : decode cX12_as 29 = .ok (.istore_n 3, 1) := by decide +kernel
theorem dX12_as_30 : decode cX12_as 30 = .ok (.iload_n 2, 1) := by decide +kernel
theorem dX12_as_31 : decode cX12_as 31 = .ok (.ifCond .eq 18, 3) := by decide +kernel
theorem dX12_as_34 : decode cX12_as 34 = .ok (.iload_n 3, 1) := by decide +kernel
theorem dX12_as_35 : decode cX12_as 35 = .ok (.iload_n 2, 1) := by decide +kernel
theorem dX12_as_36 : decode cX12_as 36 = .ok (.if_icmp .eq 13, 3) := by decide +kernel
theorem dX12_as_39 : decode cX12_as 39 = .ok (.iload_n 2, 1) := by decide +kernel
theorem dX12_as_40 : decode cX12_as 40 = .ok (.iconst 2, 1) := by decide +kernel
theorem dX12_as_41 : decode cX12_as 41 = .ok (.if_icmp .ne 12, 3) := by decide +kernel
theorem dX12_as_44 : decode cX12_as 44 = .ok (.iload_n 3, 1) := by decide +kernel
theorem dX12_as_45 : decode cX12_as 45 = .ok (.iconst 4, 1) := by decide +kernel
theorem dX12_as_46 : decode cX12_as 46 = .ok (.if_icmp .ne 7, 3) := by decide +kernel
theorem dX12_as_49 : decode cX12_as 49 = .ok (.iload_n 1, 1) := by decide +kernel
theorem dX12_as_50 : decode cX12_as 50 = .ok (.goto 4, 3) := by decide +kernel
theorem dX12_as_53 : decode cX12_as 53 = .ok (.iconst (-1), 1) := by decide +kernel
theorem dX12_as_54 : decode cX12_as 54 = .ok (.ireturn, 1) := by decide +kernel
theorem dX12_passageNow_0 : decode cX12_passageNow 0 = .ok (.iload_n 2, 1) := by decide +kernel
theorem dX12_passageNow_1 : decode cX12_passageNow 1 = .ok (.ifCond .ne 12, 3) := by decide +kernel
theorem dX12_passageNow_4 : decode cX12_passageNow 4 = .ok (.aload_n 0, 1) := by decide +kernel
theorem dX12_passageNow_5 : decode cX12_passageNow 5 = .ok (.getfield 7, 3) := by decide +kernel
theorem dX12_passageNow_8 : decode cX12_passageNow 8 = .ok (.iload_n 1, 1) := by decide +kernel
theorem dX12_passageNow_9 : decode cX12_passageNow 9 = .ok (.iaload, 1) := by decide +kernel
theorem dX12_passageNow_10 : decode cX12_passageNow 10 = .ok (.goto 23, 3) := by decide +kernel
theorem dX12_passageNow_13 : decode cX12_passageNow 13 = .ok (.iload_n 2, 1) := by decide +kernel
theorem dX12_passageNow_14 : decode cX12_passageNow 14 = .ok (.iconst 1, 1) := by decide +kernel
theorem dX12_passageNow_15 : decode cX12_passageNow 15 = .ok (.if_icmp .ne 12, 3) := by decide +kernel
theorem dX12_passageNow_18 : decode cX12_passageNow 18 = .ok (.aload_n 0, 1) := by decide +kernel
theorem dX12_passageNow_19 : decode cX12_passageNow 19 = .ok (.getfield 13, 3) := by decide +kernel
theorem dX12_passageNow_22 : decode cX12_passageNow 22 = .ok (.iload_n 1, 1) := by decide +kernel
theorem dX12_passageNow_23 : decode cX12_passageNow 23 = .ok (.iaload, 1) := by decide +kernel
theorem dX12_passageNow_24 : decode cX12_passageNow 24 = .ok (.goto 9, 3) := by decide +kernel
theorem dX12_passageNow_27 : decode cX12_passageNow 27 = .ok (.aload_n 0, 1) := by decide +kernel
theorem dX12_passageNow_28 : decode cX12_passageNow 28 = .ok (.getfield 16, 3) := by decide +kernel
theorem dX12_passageNow_31 : decode cX12_passageNow 31 = .ok (.iload_n 1, 1) := by decide +kernel
theorem dX12_passageNow_32 : decode cX12_passageNow 32 = .ok (.iaload, 1) := by decide +kernel
theorem dX12_passageNow_33 : decode cX12_passageNow 33 = .ok (.ireturn, 1) := by decide +kernel
set_option maxRecDepth 20000 in
theorem ggX12_passage_X12_isPassage : GoodIn wsX12_passage wsX12_isPassage := goodIn_r _ [5, 6, 7, 8, 4, 9, 17, 18, 19, 20, 21, 22, 23, 24, 25, 26, 27, 28, 29, 30, 31, 32, 33, 34, 35, 36, 37, 38, 39, 40, 41, 42, 43, 44, 45, 46, 47, 48, 49, 50, 51, 52, 53, 54, 55, 56, 57, 58, 59, 60, 61, 62, 63, 64, 65] (by decide +kernel) (by decide +kernel)
set_option maxRecDepth 20000 in
theorem gX12_passage_X12_isPassage : GoodIn wsX12_passage (wsV RX12 184 RX12 yX12_isPassage wsX12_isPassage) := goodIn_app (goodIn_of _ (by decide +kernel)) ggX12_passage_X12_isPassage
set_option maxRecDepth 20000 in
theorem ggX12_passage_X12_within : GoodIn wsX12_passage wsX12_within := goodIn_r _ [9] (by decide +kernel) (by decide +kernel)
set_option maxRecDepth 20000 in
theorem gX12_passage_X12_within : GoodIn wsX12_passage (va_wsS RX12 108 yX12_within wsX12_within) := goodIn_app (goodIn_of _ (by decide +kernel)) ggX12_passage_X12_within
set_option maxRecDepth 20000 in
theorem ggX12_passage_X12_passageNow : GoodIn wsX12_passage wsX12_passageNow := goodIn_r _ [13, 14, 15, 16, 17, 18, 19, 20, 21, 22, 23, 24, 25, 26, 27, 28, 29, 30, 31, 32, 33, 34, 35, 36, 37, 38, 39, 40, 41, 42, 43, 44, 45, 46, 47, 48, 49, 50, 51, 52, 53, 54, 55, 56, 57, 58, 59, 60, 61, 62, 63, 64, 65] (by decide +kernel) (by decide +kernel)
set_option maxRecDepth 20000 in
theorem gX12_passage_X12_passageNow : GoodIn wsX12_passage (wsV RX12 187 RX12 yX12_passageNow wsX12_passageNow) := goodIn_app (goodIn_of _ (by decide +kernel)) ggX12_passage_X12_passageNow
theorem dX12_passage_0 : decode cX12_passage 0 = .ok (.aload_n 0, 1) := by decide +kernel
theorem dX12_passage_1 : decode cX12_passage 1 = .ok (.iload_n 1, 1) := by decide +kernel
theorem dX12_passage_2 : decode cX12_passage 2 = .ok (.invokevirtual 184, 3) := by decide +kernel
theorem dX12_passage_5 : decode cX12_passage 5 = .ok (.ifCond .ne 8, 3) := by decide +kernel
theorem dX12_passage_8 : decode cX12_passage 8 = .ok (.bipush (-101), 2) := by decide +kernel
theorem dX12_passage_10 : decode cX12_passage 10 = .ok (.goto 23, 3) := by decide +kernel
theorem dX12_passage_13 : decode cX12_passage 13 = .ok (.iload_n 2, 1) := by decide +kernel
theorem dX12_passage_14 : decode cX12_passage 14 = .ok (.iconst 0, 1) := by decide +kernel
theorem dX12_passage_15 : decode cX12_passage 15 = .ok (.iconst 2, 1) := by decide +kernel
theorem dX12_passage_16 : decode cX12_passage 16 = .ok (.invokestatic 108, 3) := by decide +kernel
theorem dX12_passage_19 : decode cX12_passage 19 = .ok (.ifCond .eq 12, 3) := by decide +kernel
theorem dX12_passage_22 : decode cX12_passage 22 = .ok (.aload_n 0, 1) := by decide +kernel
theorem dX12_passage_23 : decode cX12_passage 23 = .ok (.iload_n 1, 1) := by decide +kernel
theorem dX12_passage_24 : decode cX12_passage 24 = .ok (.iload_n 2, 1) := by decide +kernel
theorem dX12_passage_25 : decode cX12_passage 25 = .ok (.invokevirtual 187, 3) := by decide +kernel
theorem dX12_passage_28 : decode cX12_passage 28 = .ok (.goto 5, 3) := by decide +kernel
theorem dX12_passage_31 : decode cX12_passage 31 = .ok (.bipush (-102), 2) := by decide +kernel
theorem dX12_passage_33 : decode cX12_passage 33 = .ok (.ireturn, 1) := by decide +kernel
set_option maxRecDepth 20000 in
theorem ggX12_steps_X12_isPerson : GoodIn wsX12_steps wsX12_isPerson := goodIn_r _ [5, 6, 7, 8, 4, 9, 31, 32, 33, 34, 35, 36, 37, 38, 39, 40, 41, 42, 43, 44, 45, 46, 47, 48, 49, 50, 51, 52, 53, 54, 55, 56, 57, 58, 59, 60, 61, 62, 63, 64, 65, 66, 67, 68, 69, 70, 71, 72, 73, 74, 75, 76, 77, 78, 79] (by decide +kernel) (by decide +kernel)
set_option maxRecDepth 20000 in
theorem gX12_steps_X12_isPerson : GoodIn wsX12_steps (wsV RX12 168 RX12 yX12_isPerson wsX12_isPerson) := goodIn_app (goodIn_of _ (by decide +kernel)) ggX12_steps_X12_isPerson
set_option maxRecDepth 20000 in
theorem ggX12_steps_X12_isPassage : GoodIn wsX12_steps wsX12_isPassage := goodIn_r _ [13, 14, 7, 8, 4, 9, 31, 32, 33, 34, 35, 36, 37, 38, 39, 40, 41, 42, 43, 44, 45, 46, 47, 48, 49, 50, 51, 52, 53, 54, 55, 56, 57, 58, 59, 60, 61, 62, 63, 64, 65, 66, 67, 68, 69, 70, 71, 72, 73, 74, 75, 76, 77, 78, 79] (by decide +kernel) (by decide +kernel)
set_option maxRecDepth 20000 in
theorem gX12_steps_X12_isPassage : GoodIn wsX12_steps (wsV RX12 184 RX12 yX12_isPassage wsX12_isPassage) := goodIn_app (goodIn_of _ (by decide +kernel)) ggX12_steps_X12_isPassage
set_option maxRecDepth 20000 in
theorem ggX12_steps_X12_isWith : GoodIn wsX12_steps wsX12_isWith := goodIn_r _ [18, 1, 2, 3, 4, 5, 6, 7, 8, 9, 31, 32, 33, 34, 35, 36, 37, 38, 39, 40, 41, 42, 43, 44, 45, 46, 47, 48, 49, 50, 51, 52, 53, 54, 55, 56, 57, 58, 59, 60, 61, 62, 63, 64, 65, 66, 67, 68, 69, 70, 71, 72, 73, 74, 75, 76, 77, 78, 79] (by decide +kernel) (by decide +kernel)
set_option maxRecDepth 20000 in
theorem gX12_steps_X12_isWith : GoodIn wsX12_steps (wsV RX12 190 RX12 yX12_isWith wsX12_isWith) := goodIn_app (goodIn_of _ (by decide +kernel)) ggX12_steps_X12_isWith
set_option maxRecDepth 20000 in
theorem ggX12_steps_X12_stepsOf : GoodIn wsX12_steps wsX12_stepsOf := goodIn_r _ [22, 23, 24, 25, 4, 26, 27, 28, 29, 30, 31, 32, 33, 34, 35, 36, 37, 38, 39, 40, 41, 42, 43, 44, 45, 46, 47, 48, 49, 50, 51, 52, 53, 54, 55, 56, 57, 58, 59, 60, 61, 62, 63, 64, 65, 66, 67, 68, 69, 70, 71, 72, 73, 74, 75, 76, 77, 78, 79] (by decide +kernel) (by decide +kernel)
set_option maxRecDepth 20000 in
theorem gX12_steps_X12_stepsOf : GoodIn wsX12_steps (wsV RX12 194 RX12 yX12_stepsOf wsX12_stepsOf) := goodIn_app (goodIn_of _ (by decide +kernel)) ggX12_steps_X12_stepsOf
theorem dX12_steps_0 : decode cX12_steps 0 = .ok (.aload_n 0, 1) := by decide +kernel
theorem dX12_steps_1 : decode cX12_steps 1 = .ok (.iload_n 1, 1) := by decide +kernel
theorem dX12_steps_2 : decode cX12_steps 2 = .ok (.invokevirtual 168, 3) := by decide +kernel
theorem dX12_steps_5 : decode cX12_steps 5 = .ok (.ifCond .eq 24, 3) := by decide +kernel
theorem dX12_steps_8 : decode cX12_steps 8 = .ok (.aload_n 0, 1) := by decide +kernel
theorem dX12_steps_9 : decode cX12_steps 9 = .ok (.iload_n 2, 1) := by decide +kernel
theorem dX12_steps_10 : decode cX12_steps 10 = .ok (.invokevirtual 184, 3) := by decide +kernel
theorem dX12_steps_13 : decode cX12_steps 13 = .ok (.ifCond .eq 16, 3) := by decide +kernel
theorem dX12_steps_16 : decode cX12_steps 16 = .ok (.aload_n 0, 1) := by decide +kernel
theorem dX12_steps_17 : decode cX12_steps 17 = .ok (.iload_n 1, 1) := by decide +kernel
theorem dX12_steps_18 : decode cX12_steps 18 = .ok (.iload_n 3, 1) := by decide +kernel
theorem dX12_steps_19 : decode cX12_steps 19 = .ok (.invokevirtual 190, 3) := by decide +kernel
theorem dX12_steps_22 : decode cX12_steps 22 = .ok (.ifCond .eq 7, 3) := by decide +kernel
theorem dX12_steps_25 : decode cX12_steps 25 = .ok (.iconst 1, 1) := by decide +kernel
theorem dX12_steps_26 : decode cX12_steps 26 = .ok (.goto 4, 3) := by decide +kernel
theorem dX12_steps_29 : decode cX12_steps 29 = .ok (.iconst 0, 1) := by decide +kernel
theorem dX12_steps_30 : decode cX12_steps 30 = .ok (.istore 4, 2) := by decide +kernel
theorem dX12_steps_32 : decode cX12_steps 32 = .ok (.iload 4, 2) := by decide +kernel
theorem dX12_steps_34 : decode cX12_steps 34 = .ok (.ifCond .eq 13, 3) := by decide +kernel
theorem dX12_steps_37 : decode cX12_steps 37 = .ok (.aload_n 0, 1) := by decide +kernel
theorem dX12_steps_38 : decode cX12_steps 38 = .ok (.iload_n 1, 1) := by decide +kernel
theorem dX12_steps_39 : decode cX12_steps 39 = .ok (.iload_n 2, 1) := by decide +kernel
theorem dX12_steps_40 : decode cX12_steps 40 = .ok (.iload_n 3, 1) := by decide +kernel
theorem dX12_steps_41 : decode cX12_steps 41 = .ok (.invokevirtual 194, 3) := by decide +kernel
theorem dX12_steps_44 : decode cX12_steps 44 = .ok (.goto 5, 3) := by decide +kernel
theorem dX12_steps_47 : decode cX12_steps 47 = .ok (.bipush (-101), 2) := by decide +kernel
theorem dX12_steps_49 : decode cX12_steps 49 = .ok (.ireturn, 1) := by decide +kernel
theorem dX12_endsAt_0 : decode cX12_endsAt 0 = .ok (.aload_n 0, 1) := by decide +kernel
theorem dX12_endsAt_1 : decode cX12_endsAt 1 = .ok (.getfield 7, 3) := by decide +kernel
theorem dX12_endsAt_4 : decode cX12_endsAt 4 = .ok (.iload_n 1, 1) := by decide +kernel
theorem dX12_endsAt_5 : decode cX12_endsAt 5 = .ok (.iaload, 1) := by decide +kernel
theorem dX12_endsAt_6 : decode cX12_endsAt 6 = .ok (.iload_n 2, 1) := by decide +kernel
theorem dX12_endsAt_7 : decode cX12_endsAt 7 = .ok (.if_icmp .eq 13, 3) := by decide +kernel
theorem dX12_endsAt_10 : decode cX12_endsAt 10 = .ok (.aload_n 0, 1) := by decide +kernel
theorem dX12_endsAt_11 : decode cX12_endsAt 11 = .ok (.getfield 13, 3) := by decide +kernel
theorem dX12_endsAt_14 : decode cX12_endsAt 14 = .ok (.iload_n 1, 1) := by decide +kernel
theorem dX12_endsAt_15 : decode cX12_endsAt 15 = .ok (.iaload, 1) := by decide +kernel
theorem dX12_endsAt_16 : decode cX12_endsAt 16 = .ok (.iload_n 2, 1) := by decide +kernel
theorem dX12_endsAt_17 : decode cX12_endsAt 17 = .ok (.if_icmp .ne 7, 3) := by decide +kernel
theorem dX12_endsAt_20 : decode cX12_endsAt 20 = .ok (.iconst 1, 1) := by decide +kernel
theorem dX12_endsAt_21 : decode cX12_endsAt 21 = .ok (.goto 4, 3) := by decide +kernel
theorem dX12_endsAt_24 : decode cX12_endsAt 24 = .ok (.iconst 0, 1) := by decide +kernel
theorem dX12_endsAt_25 : decode cX12_endsAt 25 = .ok (.ireturn, 1) := by decide +kernel
theorem dX12_beyond_0 : decode cX12_beyond 0 = .ok (.aload_n 0, 1) := by decide +kernel
theorem dX12_beyond_1 : decode cX12_beyond 1 = .ok (.getfield 7, 3) := by decide +kernel
theorem dX12_beyond_4 : decode cX12_beyond 4 = .ok (.iload_n 1, 1) := by decide +kernel
theorem dX12_beyond_5 : decode cX12_beyond 5 = .ok (.iaload, 1) := by decide +kernel
theorem dX12_beyond_6 : decode cX12_beyond 6 = .ok (.iload_n 2, 1) := by decide +kernel
theorem dX12_beyond_7 : decode cX12_beyond 7 = .ok (.if_icmp .ne 12, 3) := by decide +kernel
theorem dX12_beyond_10 : decode cX12_beyond 10 = .ok (.aload_n 0, 1) := by decide +kernel
theorem dX12_beyond_11 : decode cX12_beyond 11 = .ok (.getfield 13, 3) := by decide +kernel
theorem dX12_beyond_14 : decode cX12_beyond 14 = .ok (.iload_n 1, 1) := by decide +kernel
theorem dX12_beyond_15 : decode cX12_beyond 15 = .ok (.iaload, 1) := by decide +kernel
theorem dX12_beyond_16 : decode cX12_beyond 16 = .ok (.goto 9, 3) := by decide +kernel
theorem dX12_beyond_19 : decode cX12_beyond 19 = .ok (.aload_n 0, 1) := by decide +kernel
theorem dX12_beyond_20 : decode cX12_beyond 20 = .ok (.getfield 7, 3) := by decide +kernel
theorem dX12_beyond_23 : decode cX12_beyond 23 = .ok (.iload_n 1, 1) := by decide +kernel
theorem dX12_beyond_24 : decode cX12_beyond 24 = .ok (.iaload, 1) := by decide +kernel
theorem dX12_beyond_25 : decode cX12_beyond 25 = .ok (.ireturn, 1) := by decide +kernel
theorem dX12_isTired_0 : decode cX12_isTired 0 = .ok (.iload_n 1, 1) := by decide +kernel
theorem dX12_isTired_1 : decode cX12_isTired 1 = .ok (.iconst (-1), 1) := by decide +kernel
theorem dX12_isTired_2 : decode cX12_isTired 2 = .ok (.if_icmp .eq 19, 3) := by decide +kernel
theorem dX12_isTired_5 : decode cX12_isTired 5 = .ok (.aload_n 0, 1) := by decide +kernel
theorem dX12_isTired_6 : decode cX12_isTired 6 = .ok (.getfield 31, 3) := by decide +kernel
theorem dX12_isTired_9 : decode cX12_isTired 9 = .ok (.iload_n 1, 1) := by decide +kernel
theorem dX12_isTired_10 : decode cX12_isTired 10 = .ok (.iaload, 1) := by decide +kernel
theorem dX12_isTired_11 : decode cX12_isTired 11 = .ok (.sipush 9000, 3) := by decide +kernel
theorem dX12_isTired_14 : decode cX12_isTired 14 = .ok (.if_icmp .le 7, 3) := by decide +kernel
theorem dX12_isTired_17 : decode cX12_isTired 17 = .ok (.iconst 1, 1) := by decide +kernel
theorem dX12_isTired_18 : decode cX12_isTired 18 = .ok (.goto 4, 3) := by decide +kernel
theorem dX12_isTired_21 : decode cX12_isTired 21 = .ok (.iconst 0, 1) := by decide +kernel
theorem dX12_isTired_22 : decode cX12_isTired 22 = .ok (.ireturn, 1) := by decide +kernel
set_option maxRecDepth 20000 in
theorem ggX12_go_X12_isPerson : GoodIn wsX12_go wsX12_isPerson := goodIn_r _ [8, 9, 10, 11, 7, 12, 48, 49, 50, 51, 52, 53, 54, 55, 56, 57, 58, 59, 60, 61, 62, 63, 64, 65, 66, 67, 68, 69, 70, 71, 72, 73, 74, 75, 76, 77, 78, 79, 80, 81, 82, 83, 84, 85, 86, 87, 88, 89, 90, 91, 92, 93, 94, 95, 96] (by decide +kernel) (by decide +kernel)
set_option maxRecDepth 20000 in
theorem gX12_go_X12_isPerson : GoodIn wsX12_go (wsV RX12 168 RX12 yX12_isPerson wsX12_isPerson) := goodIn_app (goodIn_of _ (by decide +kernel)) ggX12_go_X12_isPerson
set_option maxRecDepth 20000 in
theorem ggX12_go_X12_isPassage : GoodIn wsX12_go wsX12_isPassage := goodIn_r _ [16, 17, 10, 11, 7, 12, 48, 49, 50, 51, 52, 53, 54, 55, 56, 57, 58, 59, 60, 61, 62, 63, 64, 65, 66, 67, 68, 69, 70, 71, 72, 73, 74, 75, 76, 77, 78, 79, 80, 81, 82, 83, 84, 85, 86, 87, 88, 89, 90, 91, 92, 93, 94, 95, 96] (by decide +kernel) (by decide +kernel)
set_option maxRecDepth 20000 in
theorem gX12_go_X12_isPassage : GoodIn wsX12_go (wsV RX12 184 RX12 yX12_isPassage wsX12_isPassage) := goodIn_app (goodIn_of _ (by decide +kernel)) ggX12_go_X12_isPassage
set_option maxRecDepth 20000 in
theorem ggX12_go_X12_isWith : GoodIn wsX12_go wsX12_isWith := goodIn_r _ [21, 4, 5, 6, 7, 8, 9, 10, 11, 12, 48, 49, 50, 51, 52, 53, 54, 55, 56, 57, 58, 59, 60, 61, 62, 63, 64, 65, 66, 67, 68, 69, 70, 71, 72, 73, 74, 75, 76, 77, 78, 79, 80, 81, 82, 83, 84, 85, 86, 87, 88, 89, 90, 91, 92, 93, 94, 95, 96] (by decide +kernel) (by decide +kernel)
set_option maxRecDepth 20000 in
theorem gX12_go_X12_isWith : GoodIn wsX12_go (wsV RX12 190 RX12 yX12_isWith wsX12_isWith) := goodIn_app (goodIn_of _ (by decide +kernel)) ggX12_go_X12_isWith
set_option maxRecDepth 20000 in
theorem ggX12_go_X12_endsAt : GoodIn wsX12_go wsX12_endsAt := goodIn_r _ [25, 26, 27, 48, 49, 50, 51, 52, 53, 54, 55, 56, 57, 58, 59, 60, 61, 62, 63, 64, 65, 66, 67, 68, 69, 70, 71, 72, 73, 74, 75, 76, 77, 78, 79, 80, 81, 82, 83, 84, 85, 86, 87, 88, 89, 90, 91, 92, 93, 94, 95, 96] (by decide +kernel) (by decide +kernel)
set_option maxRecDepth 20000 in
theorem gX12_go_X12_endsAt : GoodIn wsX12_go (wsV RX12 198 RX12 yX12_endsAt wsX12_endsAt) := goodIn_app (goodIn_of _ (by decide +kernel)) ggX12_go_X12_endsAt
set_option maxRecDepth 20000 in
theorem ggX12_go_X12_isTired : GoodIn wsX12_go wsX12_isTired := goodIn_r _ [31, 2, 48, 49, 50, 51, 52, 53, 54, 55, 56, 57, 58, 59, 60, 61, 62, 63, 64, 65, 66, 67, 68, 69, 70, 71, 72, 73, 74, 75, 76, 77, 78, 79, 80, 81, 82, 83, 84, 85, 86, 87, 88, 89, 90, 91, 92, 93, 94, 95, 96] (by decide +kernel) (by decide +kernel)
set_option maxRecDepth 20000 in
theorem gX12_go_X12_isTired : GoodIn wsX12_go (wsV RX12 201 RX12 yX12_isTired wsX12_isTired) := goodIn_app (goodIn_of _ (by decide +kernel)) ggX12_go_X12_isTired
set_option maxRecDepth 20000 in
theorem ggX12_go_X12_stepsOf : GoodIn wsX12_go wsX12_stepsOf := goodIn_r _ [35, 36, 37, 38, 7, 39, 40, 41, 42, 43, 48, 49, 50, 51, 52, 53, 54, 55, 56, 57, 58, 59, 60, 61, 62, 63, 64, 65, 66, 67, 68, 69, 70, 71, 72, 73, 74, 75, 76, 77, 78, 79, 80, 81, 82, 83, 84, 85, 86, 87, 88, 89, 90, 91, 92, 93, 94, 95, 96] (by decide +kernel) (by decide +kernel)
set_option maxRecDepth 20000 in
theorem gX12_go_X12_stepsOf : GoodIn wsX12_go (wsV RX12 194 RX12 yX12_stepsOf wsX12_stepsOf) := goodIn_app (goodIn_of _ (by decide +kernel)) ggX12_go_X12_stepsOf
set_option maxRecDepth 20000 in
theorem ggX12_go_X12_beyond : GoodIn wsX12_go wsX12_beyond := goodIn_r _ [47, 26, 27, 48, 49, 50, 51, 52, 53, 54, 55, 56, 57, 58, 59, 60, 61, 62, 63, 64, 65, 66, 67, 68, 69, 70, 71, 72, 73, 74, 75, 76, 77, 78, 79, 80, 81, 82, 83, 84, 85, 86, 87, 88, 89, 90, 91, 92, 93, 94, 95, 96] (by decide +kernel) (by decide +kernel)
set_option maxRecDepth 20000 in
theorem gX12_go_X12_beyond : GoodIn wsX12_go (wsV RX12 204 RX12 yX12_beyond wsX12_beyond) := goodIn_app (goodIn_of _ (by decide +kernel)) ggX12_go_X12_beyond
theorem dX12_go_0 : decode cX12_go 0 = .ok (.aload_n 0, 1) := by decide +kernel
theorem dX12_go_1 : decode cX12_go 1 = .ok (.iload_n 1, 1) := by decide +kernel
theorem dX12_go_2 : decode cX12_go 2 = .ok (.invokevirtual 168, 3) := by decide +kernel
theorem dX12_go_5 : decode cX12_go 5 = .ok (.ifCond .eq 20, 3) := by decide +kernel
theorem dX12_go_8 : decode cX12_go 8 = .ok (.aload_n 0, 1) := by decide +kernel
theorem dX12_go_9 : decode cX12_go 9 = .ok (.iload_n 2, 1) := by decide +kernel
theorem dX12_go_10 : decode cX12_go 10 = .ok (.invokevirtual 184, 3) := by decide +kernel
theorem dX12_go_13 : decode cX12_go 13 = .ok (.ifCond .eq 12, 3) := by decide +kernel
theorem dX12_go_16 : decode cX12_go 16 = .ok (.aload_n 0, 1) := by decide +kernel
theorem dX12_go_17 : decode cX12_go 17 = .ok (.iload_n 1, 1) := by decide +kernel
theorem dX12_go_18 : decode cX12_go 18 = .ok (.iload_n 3, 1) := by decide +kernel
theorem dX12_go_19 : decode cX12_go 19 = .ok (.invokevirtual 190, 3) := by decide +kernel
theorem dX12_go_22 : decode cX12_go 22 = .ok (.ifCond .ne 6, 3) := by decide +kernel
theorem dX12_go_25 : decode cX12_go 25 = .ok (.bipush (-101), 2) := by decide +kernel
theorem dX12_go_27 : decode cX12_go 27 = .ok (.ireturn, 1) := by decide +kernel
theorem dX12_go_28 : decode cX12_go 28 = .ok (.aload_n 0, 1) := by decide +kernel
theorem dX12_go_29 : decode cX12_go 29 = .ok (.getfield 28, 3) := by decide +kernel
theorem dX12_go_32 : decode cX12_go 32 = .ok (.iload_n 1, 1) := by decide +kernel
theorem dX12_go_33 : decode cX12_go 33 = .ok (.iaload, 1) := by decide +kernel
theorem dX12_go_34 : decode cX12_go 34 = .ok (.istore 4, 2) := by decide +kernel
theorem dX12_go_36 : decode cX12_go 36 = .ok (.aload_n 0, 1) := by decide +kernel
theorem dX12_go_37 : decode cX12_go 37 = .ok (.iload_n 2, 1) := by decide +kernel
theorem dX12_go_38 : decode cX12_go 38 = .ok (.iload 4, 2) := by decide +kernel
theorem dX12_go_40 : decode cX12_go 40 = .ok (.invokevirtual 198, 3) := by decide +kernel
theorem dX12_go_43 : decode cX12_go 43 = .ok (.ifCond .eq 19, 3) := by decide +kernel
theorem dX12_go_46 : decode cX12_go 46 = .ok (.iload_n 3, 1) := by decide +kernel
theorem dX12_go_47 : decode cX12_go 47 = .ok (.iconst (-1), 1) := by decide +kernel
theorem dX12_go_48 : decode cX12_go 48 = .ok (.if_icmp .eq 17, 3) := by decide +kernel
theorem dX12_go_51 : decode cX12_go 51 = .ok (.aload_n 0, 1) := by decide +kernel
theorem dX12_go_52 : decode cX12_go 52 = .ok (.getfield 28, 3) := by decide +kernel
theorem dX12_go_55 : decode cX12_go 55 = .ok (.iload_n 3, 1) := by decide +kernel
theorem dX12_go_56 : decode cX12_go 56 = .ok (.iaload, 1) := by decide +kernel
theorem dX12_go_57 : decode cX12_go 57 = .ok (.iload 4, 2) := by decide +kernel
theorem dX12_go_59 : decode cX12_go 59 = .ok (.if_icmp .eq 6, 3) := by decide +kernel
theorem dX12_go_62 : decode cX12_go 62 = .ok (.bipush (-103), 2) := by decide +kernel
theorem dX12_go_64 : decode cX12_go 64 = .ok (.ireturn, 1) := by decide +kernel
theorem dX12_go_65 : decode cX12_go 65 = .ok (.aload_n 0, 1) := by decide +kernel
theorem dX12_go_66 : decode cX12_go 66 = .ok (.iload_n 1, 1) := by decide +kernel
theorem dX12_go_67 : decode cX12_go 67 = .ok (.invokevirtual 201, 3) := by decide +kernel
theorem dX12_go_70 : decode cX12_go 70 = .ok (.ifCond .ne 11, 3) := by decide +kernel
theorem dX12_go_73 : decode cX12_go 73 = .ok (.aload_n 0, 1) := by decide +kernel
theorem dX12_go_74 : decode cX12_go 74 = .ok (.iload_n 3, 1) := by decide +kernel
theorem dX12_go_75 : decode cX12_go 75 = .ok (.invokevirtual 201, 3) := by decide +kernel
theorem dX12_go_78 : decode cX12_go 78 = .ok (.ifCond .eq 6, 3) := by decide +kernel
theorem dX12_go_81 : decode cX12_go 81 = .ok (.bipush (-104), 2) := by decide +kernel
theorem dX12_go_83 : decode cX12_go 83 = .ok (.ireturn, 1) := by decide +kernel
theorem dX12_go_84 : decode cX12_go 84 = .ok (.aload_n 0, 1) := by decide +kernel
theorem dX12_go_85 : decode cX12_go 85 = .ok (.iload_n 1, 1) := by decide +kernel
theorem dX12_go_86 : decode cX12_go 86 = .ok (.iload_n 2, 1) := by decide +kernel
theorem dX12_go_87 : decode cX12_go 87 = .ok (.iload_n 3, 1) := by decide +kernel
theorem dX12_go_88 : decode cX12_go 88 = .ok (.invokevirtual 194, 3) := by decide +kernel
theorem dX12_go_91 : decode cX12_go 91 = .ok (.istore 5, 2) := by decide +kernel
theorem dX12_go_93 : decode cX12_go 93 = .ok (.aload_n 0, 1) := by decide +kernel
theorem dX12_go_94 : decode cX12_go 94 = .ok (.getfield 31, 3) := by decide +kernel
theorem dX12_go_97 : decode cX12_go 97 = .ok (.iload_n 1, 1) := by decide +kernel
theorem dX12_go_98 : decode cX12_go 98 = .ok (.dup2, 1) := by decide +kernel
theorem dX12_go_99 : decode cX12_go 99 = .ok (.iaload, 1) := by decide +kernel
theorem dX12_go_100 : decode cX12_go 100 = .ok (.iload 5, 2) := by decide +kernel
theorem dX12_go_102 : decode cX12_go 102 = .ok (.iadd, 1) := by decide +kernel
theorem dX12_go_103 : decode cX12_go 103 = .ok (.iastore, 1) := by decide +kernel
theorem dX12_go_104 : decode cX12_go 104 = .ok (.aload_n 0, 1) := by decide +kernel
theorem dX12_go_105 : decode cX12_go 105 = .ok (.getfield 28, 3) := by decide +kernel
theorem dX12_go_108 : decode cX12_go 108 = .ok (.iload_n 1, 1) := by decide +kernel
theorem dX12_go_109 : decode cX12_go 109 = .ok (.aload_n 0, 1) := by decide +kernel
theorem dX12_go_110 : decode cX12_go 110 = .ok (.iload_n 2, 1) := by decide +kernel
theorem dX12_go_111 : decode cX12_go 111 = .ok (.iload 4, 2) := by decide +kernel
theorem dX12_go_113 : decode cX12_go 113 = .ok (.invokevirtual 204, 3) := by decide +kernel
theorem dX12_go_116 : decode cX12_go 116 = .ok (.iastore, 1) := by decide +kernel
theorem dX12_go_117 : decode cX12_go 117 = .ok (.iload_n 3, 1) := by decide +kernel
theorem dX12_go_118 : decode cX12_go 118 = .ok (.iconst (-1), 1) := by decide +kernel
theorem dX12_go_119 : decode cX12_go 119 = .ok (.if_icmp .eq 37, 3) := by decide +kernel
theorem dX12_go_122 : decode cX12_go 122 = .ok (.aload_n 0, 1) := by decide +kernel
theorem dX12_go_123 : decode cX12_go 123 = .ok (.getfield 31, 3) := by decide +kernel
theorem dX12_go_126 : decode cX12_go 126 = .ok (.iload_n 3, 1) := by decide +kernel
theorem dX12_go_127 : decode cX12_go 127 = .ok (.dup2, 1) := by decide +kernel
theorem dX12_go_128 : decode cX12_go 128 = .ok (.iaload, 1) := by decide +kernel
theorem dX12_go_129 : decode cX12_go 129 = .ok (.iload 5, 2) := by decide +kernel
theorem dX12_go_131 : decode cX12_go 131 = .ok (.iadd, 1) := by decide +kernel
theorem dX12_go_132 : decode cX12_go 132 = .ok (.iastore, 1) := by decide +kernel
theorem dX12_go_133 : decode cX12_go 133 = .ok (.aload_n 0, 1) := by decide +kernel
theorem dX12_go_134 : decode cX12_go 134 = .ok (.getfield 28, 3) := by decide +kernel
theorem dX12_go_137 : decode cX12_go 137 = .ok (.iload_n 3, 1) := by decide +kernel
theorem dX12_go_138 : decode cX12_go 138 = .ok (.aload_n 0, 1) := by decide +kernel
theorem dX12_go_139 : decode cX12_go 139 = .ok (.iload_n 2, 1) := by decide +kernel
theorem dX12_go_140 : decode cX12_go 140 = .ok (.iload 4, 2) := by decide +kernel
theorem dX12_go_142 : decode cX12_go 142 = .ok (.invokevirtual 204, 3) := by decide +kernel
theorem dX12_go_145 : decode cX12_go 145 = .ok (.iastore, 1) := by decide +kernel
theorem dX12_go_146 : decode cX12_go 146 = .ok (.aload_n 0, 1) := by decide +kernel
theorem dX12_go_147 : decode cX12_go 147 = .ok (.dup, 1) := by decide +kernel
theorem dX12_go_148 : decode cX12_go 148 = .ok (.getfield 159, 3) := by decide +kernel
theorem dX12_go_151 : decode cX12_go 151 = .ok (.iconst 1, 1) := by decide +kernel
theorem dX12_go_152 : decode cX12_go 152 = .ok (.iadd, 1) := by decide +kernel
theorem dX12_go_153 : decode cX12_go 153 = .ok (.putfield 159, 3) := by decide +kernel
theorem dX12_go_156 : decode cX12_go 156 = .ok (.iload 5, 2) := by decide +kernel
theorem dX12_go_158 : decode cX12_go 158 = .ok (.ireturn, 1) := by decide +kernel
set_option maxRecDepth 20000 in
theorem ggX12_sin_X12_isPerson : GoodIn wsX12_sin wsX12_isPerson := goodIn_r _ [6, 7, 8, 9, 5, 10, 11, 12, 13, 14, 15, 16, 17, 18, 19, 20, 21, 22, 23, 24, 25, 26, 27, 28, 29, 30, 31, 32, 33, 34, 35, 36, 37, 38, 39, 40, 41, 42, 43, 44, 45, 46, 47, 48, 49, 50, 51, 52, 53, 54, 55, 56, 57, 58, 59] (by decide +kernel) (by decide +kernel)
set_option maxRecDepth 20000 in
theorem gX12_sin_X12_isPerson : GoodIn wsX12_sin (wsV RX12 168 RX12 yX12_isPerson wsX12_isPerson) := goodIn_app (goodIn_of _ (by decide +kernel)) ggX12_sin_X12_isPerson
theorem dX12_sin_0 : decode cX12_sin 0 = .ok (.aload_n 0, 1) := by decide +kernel
theorem dX12_sin_1 : decode cX12_sin 1 = .ok (.iload_n 1, 1) := by decide +kernel
theorem dX12_sin_2 : decode cX12_sin 2 = .ok (.invokevirtual 168, 3) := by decide +kernel
theorem dX12_sin_5 : decode cX12_sin 5 = .ok (.ifCond .ne 6, 3) := by decide +kernel
theorem dX12_sin_8 : decode cX12_sin 8 = .ok (.bipush (-101), 2) := by decide +kernel
theorem dX12_sin_10 : decode cX12_sin 10 = .ok (.ireturn, 1) := by decide +kernel
theorem dX12_sin_11 : decode cX12_sin 11 = .ok (.aload_n 0, 1) := by decide +kernel
theorem dX12_sin_12 : decode cX12_sin 12 = .ok (.getfield 22, 3) := by decide +kernel
theorem dX12_sin_15 : decode cX12_sin 15 = .ok (.iload_n 1, 1) := by decide +kernel
theorem dX12_sin_16 : decode cX12_sin 16 = .ok (.iaload, 1) := by decide +kernel
theorem dX12_sin_17 : decode cX12_sin 17 = .ok (.bipush 9, 2) := by decide +kernel
theorem dX12_sin_19 : decode cX12_sin 19 = .ok (.if_icmp .ne 6, 3) := by decide +kernel
theorem dX12_sin_22 : decode cX12_sin 22 = .ok (.bipush (-104), 2) := by decide +kernel
theorem dX12_sin_24 : decode cX12_sin 24 = .ok (.ireturn, 1) := by decide +kernel
theorem dX12_sin_25 : decode cX12_sin 25 = .ok (.aload_n 0, 1) := by decide +kernel
theorem dX12_sin_26 : decode cX12_sin 26 = .ok (.getfield 22, 3) := by decide +kernel
theorem dX12_sin_29 : decode cX12_sin 29 = .ok (.iload_n 1, 1) := by decide +kernel
theorem dX12_sin_30 : decode cX12_sin 30 = .ok (.dup2, 1) := by decide +kernel
theorem dX12_sin_31 : decode cX12_sin 31 = .ok (.iaload, 1) := by decide +kernel
theorem dX12_sin_32 : decode cX12_sin 32 = .ok (.iconst 1, 1) := by decide +kernel
theorem dX12_sin_33 : decode cX12_sin 33 = .ok (.iadd, 1) := by decide +kernel
theorem dX12_sin_34 : decode cX12_sin 34 = .ok (.iastore, 1) := by decide +kernel
theorem dX12_sin_35 : decode cX12_sin 35 = .ok (.aload_n 0, 1) := by decide +kernel
theorem dX12_sin_36 : decode cX12_sin 36 = .ok (.getfield 22, 3) := by decide +kernel
theorem dX12_sin_39 : decode cX12_sin 39 = .ok (.iload_n 1, 1) := by decide +kernel
theorem dX12_sin_40 : decode cX12_sin 40 = .ok (.iaload, 1) := by decide +kernel
theorem dX12_sin_41 : decode cX12_sin 41 = .ok (.ireturn, 1) := by decide +kernel
set_option maxRecDepth 20000 in
theorem ggX12_lie_X12_isPerson : GoodIn wsX12_lie wsX12_isPerson := goodIn_r _ [6, 7, 8, 9, 5, 10, 11, 12, 13, 14, 15, 16, 17, 18, 19, 20, 21, 22, 23, 24, 25, 26, 27, 28, 29, 30, 31, 32, 33, 34, 35, 36, 37, 38, 39, 40, 41, 42, 43, 44, 45, 46, 47, 48, 49, 50, 51, 52, 53, 54, 55, 56, 57, 58, 59] (by decide +kernel) (by decide +kernel)
set_option maxRecDepth 20000 in
theorem gX12_lie_X12_isPerson : GoodIn wsX12_lie (wsV RX12 168 RX12 yX12_isPerson wsX12_isPerson) := goodIn_app (goodIn_of _ (by decide +kernel)) ggX12_lie_X12_isPerson
theorem dX12_lie_0 : decode cX12_lie 0 = .ok (.aload_n 0, 1) := by decide +kernel
theorem dX12_lie_1 : decode cX12_lie 1 = .ok (.iload_n 1, 1) := by decide +kernel
theorem dX12_lie_2 : decode cX12_lie 2 = .ok (.invokevirtual 168, 3) := by decide +kernel
theorem dX12_lie_5 : decode cX12_lie 5 = .ok (.ifCond .ne 6, 3) := by decide +kernel
theorem dX12_lie_8 : decode cX12_lie 8 = .ok (.bipush (-101), 2) := by decide +kernel
theorem dX12_lie_10 : decode cX12_lie 10 = .ok (.ireturn, 1) := by decide +kernel
theorem dX12_lie_11 : decode cX12_lie 11 = .ok (.aload_n 0, 1) := by decide +kernel
theorem dX12_lie_12 : decode cX12_lie 12 = .ok (.getfield 25, 3) := by decide +kernel
theorem dX12_lie_15 : decode cX12_lie 15 = .ok (.iload_n 1, 1) := by decide +kernel
theorem dX12_lie_16 : decode cX12_lie 16 = .ok (.iaload, 1) := by decide +kernel
theorem dX12_lie_17 : decode cX12_lie 17 = .ok (.bipush 9, 2) := by decide +kernel
theorem dX12_lie_19 : decode cX12_lie 19 = .ok (.if_icmp .ne 6, 3) := by decide +kernel
theorem dX12_lie_22 : decode cX12_lie 22 = .ok (.bipush (-104), 2) := by decide +kernel
theorem dX12_lie_24 : decode cX12_lie 24 = .ok (.ireturn, 1) := by decide +kernel
theorem dX12_lie_25 : decode cX12_lie 25 = .ok (.aload_n 0, 1) := by decide +kernel
theorem dX12_lie_26 : decode cX12_lie 26 = .ok (.getfield 25, 3) := by decide +kernel
theorem dX12_lie_29 : decode cX12_lie 29 = .ok (.iload_n 1, 1) := by decide +kernel
theorem dX12_lie_30 : decode cX12_lie 30 = .ok (.dup2, 1) := by decide +kernel
theorem dX12_lie_31 : decode cX12_lie 31 = .ok (.iaload, 1) := by decide +kernel
theorem dX12_lie_32 : decode cX12_lie 32 = .ok (.iconst 1, 1) := by decide +kernel
theorem dX12_lie_33 : decode cX12_lie 33 = .ok (.iadd, 1) := by decide +kernel
theorem dX12_lie_34 : decode cX12_lie 34 = .ok (.iastore, 1) := by decide +kernel
theorem dX12_lie_35 : decode cX12_lie 35 = .ok (.aload_n 0, 1) := by decide +kernel
theorem dX12_lie_36 : decode cX12_lie 36 = .ok (.getfield 25, 3) := by decide +kernel
theorem dX12_lie_39 : decode cX12_lie 39 = .ok (.iload_n 1, 1) := by decide +kernel
theorem dX12_lie_40 : decode cX12_lie 40 = .ok (.iaload, 1) := by decide +kernel
theorem dX12_lie_41 : decode cX12_lie 41 = .ok (.ireturn, 1) := by decide +kernel
set_option maxRecDepth 20000 in
theorem ggX12_confess_X12_isPerson : GoodIn wsX12_confess wsX12_isPerson := goodIn_r _ [6, 7, 8, 9, 5, 10, 11, 12, 13, 14, 15, 16, 17, 18, 19, 20, 21, 22, 23, 24, 25, 26, 27, 28, 29, 30, 31, 32, 33, 34, 35, 36, 37, 38, 39, 40, 41, 42, 43, 44, 45, 46, 47, 48, 49, 50, 51, 52, 53, 54, 55, 56, 57, 58, 59] (by decide +kernel) (by decide +kernel)
set_option maxRecDepth 20000 in
theorem gX12_confess_X12_isPerson : GoodIn wsX12_confess (wsV RX12 168 RX12 yX12_isPerson wsX12_isPerson) := goodIn_app (goodIn_of _ (by decide +kernel)) ggX12_confess_X12_isPerson
theorem dX12_confess_0 : decode cX12_confess 0 = .ok (.aload_n 0, 1) := by decide +kernel
theorem dX12_confess_1 : decode cX12_confess 1 = .ok (.iload_n 1, 1) := by decide +kernel
theorem dX12_confess_2 : decode cX12_confess 2 = .ok (.invokevirtual 168, 3) := by decide +kernel
theorem dX12_confess_5 : decode cX12_confess 5 = .ok (.ifCond .ne 6, 3) := by decide +kernel
theorem dX12_confess_8 : decode cX12_confess 8 = .ok (.bipush (-101), 2) := by decide +kernel
theorem dX12_confess_10 : decode cX12_confess 10 = .ok (.ireturn, 1) := by decide +kernel
theorem dX12_confess_11 : decode cX12_confess 11 = .ok (.aload_n 0, 1) := by decide +kernel
theorem dX12_confess_12 : decode cX12_confess 12 = .ok (.getfield 22, 3) := by decide +kernel
theorem dX12_confess_15 : decode cX12_confess 15 = .ok (.iload_n 1, 1) := by decide +kernel
theorem dX12_confess_16 : decode cX12_confess 16 = .ok (.iaload, 1) := by decide +kernel
theorem dX12_confess_17 : decode cX12_confess 17 = .ok (.ifCond .ne 6, 3) := by decide +kernel
theorem dX12_confess_20 : decode cX12_confess 20 = .ok (.bipush (-103), 2) := by decide +kernel
theorem dX12_confess_22 : decode cX12_confess 22 = .ok (.ireturn, 1) := by decide +kernel
theorem dX12_confess_23 : decode cX12_confess 23 = .ok (.aload_n 0, 1) := by decide +kernel
theorem dX12_confess_24 : decode cX12_confess 24 = .ok (.getfield 22, 3) := by decide +kernel
theorem dX12_confess_27 : decode cX12_confess 27 = .ok (.iload_n 1, 1) := by decide +kernel
theorem dX12_confess_28 : decode cX12_confess 28 = .ok (.dup2, 1) := by decide +kernel
theorem dX12_confess_29 : decode cX12_confess 29 = .ok (.iaload, 1) := by decide +kernel
theorem dX12_confess_30 : decode cX12_confess 30 = .ok (.iconst 1, 1) := by decide +kernel
theorem dX12_confess_31 : decode cX12_confess 31 = .ok (.isub, 1) := by decide +kernel
theorem dX12_confess_32 : decode cX12_confess 32 = .ok (.iastore, 1) := by decide +kernel
theorem dX12_confess_33 : decode cX12_confess 33 = .ok (.aload_n 0, 1) := by decide +kernel
theorem dX12_confess_34 : decode cX12_confess 34 = .ok (.getfield 22, 3) := by decide +kernel
theorem dX12_confess_37 : decode cX12_confess 37 = .ok (.iload_n 1, 1) := by decide +kernel
theorem dX12_confess_38 : decode cX12_confess 38 = .ok (.iaload, 1) := by decide +kernel
theorem dX12_confess_39 : decode cX12_confess 39 = .ok (.ireturn, 1) := by decide +kernel
set_option maxRecDepth 20000 in
theorem ggX12_carpet_X12_isPassage : GoodIn wsX12_carpet wsX12_isPassage := goodIn_r _ [6, 7, 8, 9, 5, 10, 11, 12, 13, 14, 15, 16, 17, 18, 19, 20, 21, 22, 23, 24, 25, 26, 27, 28, 29, 30, 31, 32, 33, 34, 35, 36, 37, 38, 39, 40, 41, 42, 43, 44, 45, 46, 47, 48, 49, 50, 51, 52, 53, 54, 55, 56, 57, 58, 59] (by decide +kernel) (by decide +kernel)
set_option maxRecDepth 20000 in
theorem gX12_carpet_X12_isPassage : GoodIn wsX12_carpet (wsV RX12 184 RX12 yX12_isPassage wsX12_isPassage) := goodIn_app (goodIn_of _ (by decide +kernel)) ggX12_carpet_X12_isPassage
set_option maxRecDepth 20000 in
theorem ggX12_carpet_X12_within : GoodIn wsX12_carpet wsX12_within := goodIn_r _ [10] (by decide +kernel) (by decide +kernel)
set_option maxRecDepth 20000 in
theorem gX12_carpet_X12_within : GoodIn wsX12_carpet (va_wsS RX12 108 yX12_within wsX12_within) := goodIn_app (goodIn_of _ (by decide +kernel)) ggX12_carpet_X12_within
theorem dX12_carpet_0 : decode cX12_carpet 0 = .ok (.aload_n 0, 1) := by decide +kernel
theorem dX12_carpet_1 : decode cX12_carpet 1 = .ok (.iload_n 1, 1) := by decide +kernel
theorem dX12_carpet_2 : decode cX12_carpet 2 = .ok (.invokevirtual 184, 3) := by decide +kernel
theorem dX12_carpet_5 : decode cX12_carpet 5 = .ok (.ifCond .ne 6, 3) := by decide +kernel
theorem dX12_carpet_8 : decode cX12_carpet 8 = .ok (.bipush (-101), 2) := by decide +kernel
theorem dX12_carpet_10 : decode cX12_carpet 10 = .ok (.ireturn, 1) := by decide +kernel
theorem dX12_carpet_11 : decode cX12_carpet 11 = .ok (.iload_n 2, 1) := by decide +kernel
theorem dX12_carpet_12 : decode cX12_carpet 12 = .ok (.iconst 1, 1) := by decide +kernel
theorem dX12_carpet_13 : decode cX12_carpet 13 = .ok (.bipush 9, 2) := by decide +kernel
theorem dX12_carpet_15 : decode cX12_carpet 15 = .ok (.invokestatic 108, 3) := by decide +kernel
theorem dX12_carpet_18 : decode cX12_carpet 18 = .ok (.ifCond .ne 6, 3) := by decide +kernel
theorem dX12_carpet_21 : decode cX12_carpet 21 = .ok (.bipush (-102), 2) := by decide +kernel
theorem dX12_carpet_23 : decode cX12_carpet 23 = .ok (.ireturn, 1) := by decide +kernel
theorem dX12_carpet_24 : decode cX12_carpet 24 = .ok (.aload_n 0, 1) := by decide +kernel
theorem dX12_carpet_25 : decode cX12_carpet 25 = .ok (.getfield 16, 3) := by decide +kernel
theorem dX12_carpet_28 : decode cX12_carpet 28 = .ok (.iload_n 1, 1) := by decide +kernel
theorem dX12_carpet_29 : decode cX12_carpet 29 = .ok (.iaload, 1) := by decide +kernel
theorem dX12_carpet_30 : decode cX12_carpet 30 = .ok (.istore_n 3, 1) := by decide +kernel
theorem dX12_carpet_31 : decode cX12_carpet 31 = .ok (.aload_n 0, 1) := by decide +kernel
theorem dX12_carpet_32 : decode cX12_carpet 32 = .ok (.getfield 16, 3) := by decide +kernel
theorem dX12_carpet_35 : decode cX12_carpet 35 = .ok (.iload_n 1, 1) := by decide +kernel
theorem dX12_carpet_36 : decode cX12_carpet 36 = .ok (.iload_n 2, 1) := by decide +kernel
theorem dX12_carpet_37 : decode cX12_carpet 37 = .ok (.iastore, 1) := by decide +kernel
theorem dX12_carpet_38 : decode cX12_carpet 38 = .ok (.iload_n 3, 1) := by decide +kernel
theorem dX12_carpet_39 : decode cX12_carpet 39 = .ok (.ireturn, 1) := by decide +kernel
set_option maxRecDepth 20000 in
theorem ggX12_layFar_X12_alone : GoodIn wsX12_layFar wsX12_alone := goodIn_r _ [11, 12, 13, 14, 15, 16, 17, 18, 19, 20, 21, 22, 23, 24, 25, 26, 27, 28, 29, 30, 31, 32, 33, 34, 35, 36, 37, 38, 39, 40, 41, 42, 43, 44, 45, 46, 47, 48, 49, 50, 51, 52, 53, 54, 55, 56, 57, 58, 59, 60, 61, 62, 63, 64] (by decide +kernel) (by decide +kernel)
set_option maxRecDepth 20000 in
theorem gX12_layFar_X12_alone : GoodIn wsX12_layFar (wsV RX12 172 RX12 yX12_alone wsX12_alone) := goodIn_app (goodIn_of _ (by decide +kernel)) ggX12_layFar_X12_alone
theorem dX12_layFar_0 : decode cX12_layFar 0 = .ok (.iconst 0, 1) := by decide +kernel
theorem dX12_layFar_1 : decode cX12_layFar 1 = .ok (.istore_n 3, 1) := by decide +kernel
theorem dX12_layFar_2 : decode cX12_layFar 2 = .ok (.iload_n 3, 1) := by decide +kernel
theorem dX12_layFar_3 : decode cX12_layFar 3 = .ok (.aload_n 0, 1) := by decide +kernel
theorem dX12_layFar_4 : decode cX12_layFar 4 = .ok (.getfield 150, 3) := by decide +kernel
theorem dX12_layFar_7 : decode cX12_layFar 7 = .ok (.if_icmp .ge 26, 3) := by decide +kernel
theorem dX12_layFar_10 : decode cX12_layFar 10 = .ok (.aload_n 0, 1) := by decide +kernel
theorem dX12_layFar_11 : decode cX12_layFar 11 = .ok (.getfield 50, 3) := by decide +kernel
theorem dX12_layFar_14 : decode cX12_layFar 14 = .ok (.iload_n 3, 1) := by decide +kernel
theorem dX12_layFar_15 : decode cX12_layFar 15 = .ok (.iload_n 3, 1) := by decide +kernel
theorem dX12_layFar_16 : decode cX12_layFar 16 = .ok (.iload_n 2, 1) := by decide +kernel
theorem dX12_layFar_17 : decode cX12_layFar 17 = .ok (.if_icmp .ne 7, 3) := by decide +kernel
theorem dX12_layFar_20 : decode cX12_layFar 20 = .ok (.iconst 0, 1) := by decide +kernel
theorem dX12_layFar_21 : decode cX12_layFar 21 = .ok (.goto 5, 3) := by decide +kernel
theorem dX12_layFar_24 : decode cX12_layFar 24 = .ok (.ldc 207, 2) := by decide +kernel
theorem dX12_layFar_26 : decode cX12_layFar 26 = .ok (.iastore, 1) := by decide +kernel
theorem dX12_layFar_27 : decode cX12_layFar 27 = .ok (.iinc 3 1, 3) := by decide +kernel
theorem dX12_layFar_30 : decode cX12_layFar 30 = .ok (.goto (-28), 3) := by decide +kernel
theorem dX12_layFar_33 : decode cX12_layFar 33 = .ok (.iconst 0, 1) := by decide +kernel
theorem dX12_layFar_34 : decode cX12_layFar 34 = .ok (.istore_n 3, 1) := by decide +kernel
theorem dX12_layFar_35 : decode cX12_layFar 35 = .ok (.iload_n 3, 1) := by decide +kernel
theorem dX12_layFar_36 : decode cX12_layFar 36 = .ok (.aload_n 0, 1) := by decide +kernel
theorem dX12_layFar_37 : decode cX12_layFar 37 = .ok (.getfield 150, 3) := by decide +kernel
theorem dX12_layFar_40 : decode cX12_layFar 40 = .ok (.if_icmp .ge 148, 3) := by decide +kernel
theorem dX12_layFar_43 : decode cX12_layFar 43 = .ok (.iconst 0, 1) := by decide +kernel
theorem dX12_layFar_44 : decode cX12_layFar 44 = .ok (.istore 4, 2) := by decide +kernel
theorem dX12_layFar_46 : decode cX12_layFar 46 = .ok (.iload 4, 2) := by decide +kernel
theorem dX12_layFar_48 : decode cX12_layFar 48 = .ok (.aload_n 0, 1) := by decide +kernel
theorem dX12_layFar_49 : decode cX12_layFar 49 = .ok (.getfield 153, 3) := by decide +kernel
theorem dX12_layFar_52 : decode cX12_layFar 52 = .ok (.if_icmp .ge 130, 3) := by decide +kernel
theorem dX12_layFar_55 : decode cX12_layFar 55 = .ok (.aload_n 0, 1) := by decide +kernel
theorem dX12_layFar_56 : decode cX12_layFar 56 = .ok (.iload_n 1, 1) := by decide +kernel
theorem dX12_layFar_57 : decode cX12_layFar 57 = .ok (.iload 4, 2) := by decide +kernel
theorem dX12_layFar_59 : decode cX12_layFar 59 = .ok (.invokevirtual 172, 3) := by decide +kernel
theorem dX12_layFar_62 : decode cX12_layFar 62 = .ok (.istore 5, 2) := by decide +kernel
theorem dX12_layFar_64 : decode cX12_layFar 64 = .ok (.aload_n 0, 1) := by decide +kernel
theorem dX12_layFar_65 : decode cX12_layFar 65 = .ok (.getfield 7, 3) := by decide +kernel
theorem dX12_layFar_68 : decode cX12_layFar 68 = .ok (.iload 4, 2) := by decide +kernel
theorem dX12_layFar_70 : decode cX12_layFar 70 = .ok (.iaload, 1) := by decide +kernel
theorem dX12_layFar_71 : decode cX12_layFar 71 = .ok (.istore 6, 2) := by decide +kernel
theorem dX12_layFar_73 : decode cX12_layFar 73 = .ok (.aload_n 0, 1) := by decide +kernel
theorem dX12_layFar_74 : decode cX12_layFar 74 = .ok (.getfield 13, 3) := by decide +kernel
theorem dX12_layFar_77 : decode cX12_layFar 77 = .ok (.iload 4, 2) := by decide +kernel
theorem dX12_layFar_79 : decode cX12_layFar 79 = .ok (.iaload, 1) := by decide +kernel
theorem dX12_layFar_80 : decode cX12_layFar 80 = .ok (.istore 7, 2) := by decide +kernel
theorem dX12_layFar_82 : decode cX12_layFar 82 = .ok (.aload_n 0, 1) := by decide +kernel
theorem dX12_layFar_83 : decode cX12_layFar 83 = .ok (.getfield 50, 3) := by decide +kernel
theorem dX12_layFar_86 : decode cX12_layFar 86 = .ok (.iload 6, 2) := by decide +kernel
theorem dX12_layFar_88 : decode cX12_layFar 88 = .ok (.aload_n 0, 1) := by decide +kernel
theorem dX12_layFar_89 : decode cX12_layFar 89 = .ok (.getfield 50, 3) := by decide +kernel
theorem dX12_layFar_92 : decode cX12_layFar 92 = .ok (.iload 7, 2) := by decide +kernel
theorem dX12_layFar_94 : decode cX12_layFar 94 = .ok (.iaload, 1) := by decide +kernel
theorem dX12_layFar_95 : decode cX12_layFar 95 = .ok (.iload 5, 2) := by decide +kernel
theorem dX12_layFar_97 : decode cX12_layFar 97 = .ok (.iadd, 1) := by decide +kernel
theorem dX12_layFar_98 : decode cX12_layFar 98 = .ok (.aload_n 0, 1) := by decide +kernel
theorem dX12_layFar_99 : decode cX12_layFar 99 = .ok (.getfield 50, 3) := by decide +kernel
theorem dX12_layFar_102 : decode cX12_layFar 102 = .ok (.iload 6, 2) := by decide +kernel
theorem dX12_layFar_104 : decode cX12_layFar 104 = .ok (.iaload, 1) := by decide +kernel
theorem dX12_layFar_105 : decode cX12_layFar 105 = .ok (.if_icmp .ge 16, 3) := by decide +kernel
theorem dX12_layFar_108 : decode cX12_layFar 108 = .ok (.aload_n 0, 1) := by decide +kernel
theorem dX12_layFar_109 : decode cX12_layFar 109 = .ok (.getfield 50, 3) := by decide +kernel
theorem dX12_layFar_112 : decode cX12_layFar 112 = .ok (.iload 7, 2) := by decide +kernel
theorem dX12_layFar_114 : decode cX12_layFar 114 = .ok (.iaload, 1) := by decide +kernel
theorem dX12_layFar_115 : decode cX12_layFar 115 = .ok (.iload 5, 2) := by decide +kernel
theorem dX12_layFar_117 : decode cX12_layFar 117 = .ok (.iadd, 1) := by decide +kernel
theorem dX12_layFar_118 : decode cX12_layFar 118 = .ok (.goto 10, 3) := by decide +kernel
theorem dX12_layFar_121 : decode cX12_layFar 121 = .ok (.aload_n 0, 1) := by decide +kernel
theorem dX12_layFar_122 : decode cX12_layFar 122 = .ok (.getfield 50, 3) := by decide +kernel
theorem dX12_layFar_125 : decode cX12_layFar 125 = .ok (.iload 6, 2) := by decide +kernel
theorem dX12_layFar_127 : decode cX12_layFar 127 = .ok (.iaload, 1) := by decide +kernel
theorem dX12_layFar_128 : decode cX12_layFar 128 = .ok (.iastore, 1) := by decide +kernel
theorem dX12_layFar_129 : decode cX12_layFar 129 = .ok (.aload_n 0, 1) := by decide +kernel
theorem dX12_layFar_130 : decode cX12_layFar 130 = .ok (.getfield 50, 3) := by decide +kernel
theorem dX12_layFar_133 : decode cX12_layFar 133 = .ok (.iload 7, 2) := by decide +kernel
theorem dX12_layFar_135 : decode cX12_layFar 135 = .ok (.aload_n 0, 1) := by decide +kernel
theorem dX12_layFar_136 : decode cX12_layFar 136 = .ok (.getfield 50, 3) := by decide +kernel
theorem dX12_layFar_139 : decode cX12_layFar 139 = .ok (.iload 6, 2) := by decide +kernel
theorem dX12_layFar_141 : decode cX12_layFar 141 = .ok (.iaload, 1) := by decide +kernel
theorem dX12_layFar_142 : decode cX12_layFar 142 = .ok (.iload 5, 2) := by decide +kernel
theorem dX12_layFar_144 : decode cX12_layFar 144 = .ok (.iadd, 1) := by decide +kernel
theorem dX12_layFar_145 : decode cX12_layFar 145 = .ok (.aload_n 0, 1) := by decide +kernel
theorem dX12_layFar_146 : decode cX12_layFar 146 = .ok (.getfield 50, 3) := by decide +kernel
theorem dX12_layFar_149 : decode cX12_layFar 149 = .ok (.iload 7, 2) := by decide +kernel
theorem dX12_layFar_151 : decode cX12_layFar 151 = .ok (.iaload, 1) := by decide +kernel
theorem dX12_layFar_152 : decode cX12_layFar 152 = .ok (.if_icmp .ge 16, 3) := by decide +kernel
theorem dX12_layFar_155 : decode cX12_layFar 155 = .ok (.aload_n 0, 1) := by decide +kernel
theorem dX12_layFar_156 : decode cX12_layFar 156 = .ok (.getfield 50, 3) := by decide +kernel
theorem dX12_layFar_159 : decode cX12_layFar 159 = .ok (.iload 6, 2) := by decide +kernel
theorem dX12_layFar_161 : decode cX12_layFar 161 = .ok (.iaload, 1) := by decide +kernel
theorem dX12_layFar_162 : decode cX12_layFar 162 = .ok (.iload 5, 2) := by decide +kernel
theorem dX12_layFar_164 : decode cX12_layFar 164 = .ok (.iadd, 1) := by decide +kernel
theorem dX12_layFar_165 : decode cX12_layFar 165 = .ok (.goto 10, 3) := by decide +kernel
theorem dX12_layFar_168 : decode cX12_layFar 168 = .ok (.aload_n 0, 1) := by decide +kernel
theorem dX12_layFar_169 : decode cX12_layFar 169 = .ok (.getfield 50, 3) := by decide +kernel
theorem dX12_layFar_172 : decode cX12_layFar 172 = .ok (.iload 7, 2) := by decide +kernel
theorem dX12_layFar_174 : decode cX12_layFar 174 = .ok (.iaload, 1) := by decide +kernel
theorem dX12_layFar_175 : decode cX12_layFar 175 = .ok (.iastore, 1) := by decide +kernel
theorem dX12_layFar_176 : decode cX12_layFar 176 = .ok (.iinc 4 1, 3) := by decide +kernel
theorem dX12_layFar_179 : decode cX12_layFar 179 = .ok (.goto (-133), 3) := by decide +kernel
theorem dX12_layFar_182 : decode cX12_layFar 182 = .ok (.iinc 3 1, 3) := by decide +kernel
theorem dX12_layFar_185 : decode cX12_layFar 185 = .ok (.goto (-150), 3) := by decide +kernel
theorem dX12_layFar_188 : decode cX12_layFar 188 = .ok (.return_, 1) := by decide +kernel
set_option maxRecDepth 20000 in
theorem ggX12_farFrom_X12_layFar : GoodIn wsX12_farFrom wsX12_layFar := goodIn_r _ [7, 8, 1, 2, 9, 10, 11, 12, 13, 14, 6, 15, 16, 17, 18, 19, 20, 21, 22, 23, 24, 25, 26, 27, 28, 29, 30, 31, 32, 33, 34, 35, 36, 37, 38, 39, 40, 41, 42, 43, 44, 45, 46, 47, 48, 49, 50, 51, 52, 53, 54, 55, 56, 57, 58, 59, 60, 61, 62, 63, 64, 65, 66, 67, 68] (by decide +kernel) (by decide +kernel)
set_option maxRecDepth 20000 in
theorem gX12_farFrom_X12_layFar : GoodIn wsX12_farFrom (wsV RX12 208 RX12 yX12_layFar wsX12_layFar) := goodIn_app (goodIn_of _ (by decide +kernel)) ggX12_farFrom_X12_layFar
theorem dX12_farFrom_0 : decode cX12_farFrom 0 = .ok (.aload_n 0, 1) := by decide +kernel
theorem dX12_farFrom_1 : decode cX12_farFrom 1 = .ok (.iload_n 1, 1) := by decide +kernel
theorem dX12_farFrom_2 : decode cX12_farFrom 2 = .ok (.iload_n 3, 1) := by decide +kernel
theorem dX12_farFrom_3 : decode cX12_farFrom 3 = .ok (.invokevirtual 208, 3) := by decide +kernel
theorem dX12_farFrom_6 : decode cX12_farFrom 6 = .ok (.aload_n 0, 1) := by decide +kernel
theorem dX12_farFrom_7 : decode cX12_farFrom 7 = .ok (.getfield 50, 3) := by decide +kernel
theorem dX12_farFrom_10 : decode cX12_farFrom 10 = .ok (.iload_n 2, 1) := by decide +kernel
theorem dX12_farFrom_11 : decode cX12_farFrom 11 = .ok (.iaload, 1) := by decide +kernel
theorem dX12_farFrom_12 : decode cX12_farFrom 12 = .ok (.ldc 207, 2) := by decide +kernel
theorem dX12_farFrom_14 : decode cX12_farFrom 14 = .ok (.if_icmp .lt 7, 3) := by decide +kernel
theorem dX12_farFrom_17 : decode cX12_farFrom 17 = .ok (.iconst (-1), 1) := by decide +kernel
theorem dX12_farFrom_18 : decode cX12_farFrom 18 = .ok (.goto 9, 3) := by decide +kernel
theorem dX12_farFrom_21 : decode cX12_farFrom 21 = .ok (.aload_n 0, 1) := by decide +kernel
theorem dX12_farFrom_22 : decode cX12_farFrom 22 = .ok (.getfield 50, 3) := by decide +kernel
theorem dX12_farFrom_25 : decode cX12_farFrom 25 = .ok (.iload_n 2, 1) := by decide +kernel
theorem dX12_farFrom_26 : decode cX12_farFrom 26 = .ok (.iaload, 1) := by decide +kernel
theorem dX12_farFrom_27 : decode cX12_farFrom 27 = .ok (.ireturn, 1) := by decide +kernel
set_option maxRecDepth 20000 in
theorem ggX12_nextPassage_X12_endsAt : GoodIn wsX12_nextPassage wsX12_endsAt := goodIn_r _ [6, 7, 8, 21, 22, 23, 24, 25, 26, 27, 28, 29, 30, 31, 32, 33, 34, 35, 36, 37, 38, 39, 40, 41, 42, 43, 44, 45, 46, 47, 48, 49, 50, 51, 52, 53, 54, 55, 56, 57, 58, 59, 60, 61, 62, 63, 64, 65, 66, 67, 68, 69] (by decide +kernel) (by decide +kernel)
set_option maxRecDepth 20000 in
theorem gX12_nextPassage_X12_endsAt : GoodIn wsX12_nextPassage (wsV RX12 198 RX12 yX12_endsAt wsX12_endsAt) := goodIn_app (goodIn_of _ (by decide +kernel)) ggX12_nextPassage_X12_endsAt
set_option maxRecDepth 20000 in
theorem ggX12_nextPassage_X12_beyond : GoodIn wsX12_nextPassage wsX12_beyond := goodIn_r _ [12, 7, 8, 21, 22, 23, 24, 25, 26, 27, 28, 29, 30, 31, 32, 33, 34, 35, 36, 37, 38, 39, 40, 41, 42, 43, 44, 45, 46, 47, 48, 49, 50, 51, 52, 53, 54, 55, 56, 57, 58, 59, 60, 61, 62, 63, 64, 65, 66, 67, 68, 69] (by decide +kernel) (by decide +kernel)
set_option maxRecDepth 20000 in
theorem gX12_nextPassage_X12_beyond : GoodIn wsX12_nextPassage (wsV RX12 204 RX12 yX12_beyond wsX12_beyond) := goodIn_app (goodIn_of _ (by decide +kernel)) ggX12_nextPassage_X12_beyond
set_option maxRecDepth 20000 in
theorem ggX12_nextPassage_X12_alone : GoodIn wsX12_nextPassage wsX12_alone := goodIn_r _ [16, 17, 18, 19, 20, 21, 22, 23, 24, 25, 26, 27, 28, 29, 30, 31, 32, 33, 34, 35, 36, 37, 38, 39, 40, 41, 42, 43, 44, 45, 46, 47, 48, 49, 50, 51, 52, 53, 54, 55, 56, 57, 58, 59, 60, 61, 62, 63, 64, 65, 66, 67, 68, 69] (by decide +kernel) (by decide +kernel)
set_option maxRecDepth 20000 in
theorem gX12_nextPassage_X12_alone : GoodIn wsX12_nextPassage (wsV RX12 172 RX12 yX12_alone wsX12_alone) := goodIn_app (goodIn_of _ (by decide +kernel)) ggX12_nextPassage_X12_alone
theorem dX12_nextPassage_0 : decode cX12_nextPassage 0 = .ok (.iconst 0, 1) := by decide +kernel
theorem dX12_nextPassage_1 : decode cX12_nextPassage 1 = .ok (.istore_n 3, 1) := by decide +kernel
theorem dX12_nextPassage_2 : decode cX12_nextPassage 2 = .ok (.aload_n 0, 1) := by decide +kernel
theorem dX12_nextPassage_3 : decode cX12_nextPassage 3 = .ok (.iload_n 3, 1) := by decide +kernel
theorem dX12_nextPassage_4 : decode cX12_nextPassage 4 = .ok (.iload_n 2, 1) := by decide +kernel
theorem dX12_nextPassage_5 : decode cX12_nextPassage 5 = .ok (.invokevirtual 198, 3) := by decide +kernel
theorem dX12_nextPassage_8 : decode cX12_nextPassage 8 = .ok (.ifCond .eq 30, 3) := by decide +kernel
theorem dX12_nextPassage_11 : decode cX12_nextPassage 11 = .ok (.aload_n 0, 1) := by decide +kernel
theorem dX12_nextPassage_12 : decode cX12_nextPassage 12 = .ok (.getfield 50, 3) := by decide +kernel
theorem dX12_nextPassage_15 : decode cX12_nextPassage 15 = .ok (.aload_n 0, 1) := by decide +kernel
theorem dX12_nextPassage_16 : decode cX12_nextPassage 16 = .ok (.iload_n 3, 1) := by decide +kernel
theorem dX12_nextPassage_17 : decode cX12_nextPassage 17 = .ok (.iload_n 2, 1) := by decide +kernel
theorem dX12_nextPassage_18 : decode cX12_nextPassage 18 = .ok (.invokevirtual 204, 3) := by decide +kernel
theorem dX12_nextPassage_21 : decode cX12_nextPassage 21 = .ok (.iaload, 1) := by decide +kernel
theorem dX12_nextPassage_22 : decode cX12_nextPassage 22 = .ok (.aload_n 0, 1) := by decide +kernel
theorem dX12_nextPassage_23 : decode cX12_nextPassage 23 = .ok (.iload_n 1, 1) := by decide +kernel
theorem dX12_nextPassage_24 : decode cX12_nextPassage 24 = .ok (.iload_n 3, 1) := by decide +kernel
theorem dX12_nextPassage_25 : decode cX12_nextPassage 25 = .ok (.invokevirtual 172, 3) := by decide +kernel
theorem dX12_nextPassage_28 : decode cX12_nextPassage 28 = .ok (.iadd, 1) := by decide +kernel
theorem dX12_nextPassage_29 : decode cX12_nextPassage 29 = .ok (.aload_n 0, 1) := by decide +kernel
theorem dX12_nextPassage_30 : decode cX12_nextPassage 30 = .ok (.getfield 50, 3) := by decide +kernel
theorem dX12_nextPassage_33 : decode cX12_nextPassage 33 = .ok (.iload_n 2, 1) := by decide +kernel
theorem dX12_nextPassage_34 : decode cX12_nextPassage 34 = .ok (.iaload, 1) := by decide +kernel
theorem dX12_nextPassage_35 : decode cX12_nextPassage 35 = .ok (.if_icmp .eq 9, 3) := by decide +kernel
theorem dX12_nextPassage_38 : decode cX12_nextPassage 38 = .ok (.iinc 3 1, 3) := by decide +kernel
theorem dX12_nextPassage_41 : decode cX12_nextPassage 41 = .ok (.goto (-39), 3) := by decide +kernel
theorem dX12_nextPassage_44 : decode cX12_nextPassage 44 = .ok (.iload_n 3, 1) := by decide +kernel
theorem dX12_nextPassage_45 : decode cX12_nextPassage 45 = .ok (.ireturn, 1) := by decide +kernel
set_option maxRecDepth 20000 in
theorem ggX12_farNow_X12_farFrom : GoodIn wsX12_farNow wsX12_farFrom := goodIn_r _ [5, 6, 7, 8, 9, 10, 4, 11, 12, 13, 14, 15, 16, 17, 18, 19, 20, 21, 22, 23, 36, 37, 38, 39, 40, 41, 42, 43, 44, 45, 46, 47, 48, 49, 50, 51, 52, 53, 54, 55, 56, 57, 58, 59, 60, 61, 62, 63, 64, 65, 66, 67, 68, 69, 70, 71, 72, 73, 74, 75, 76, 77, 78, 79, 80, 81, 82, 83, 84] (by decide +kernel) (by decide +kernel)
set_option maxRecDepth 20000 in
theorem gX12_farNow_X12_farFrom : GoodIn wsX12_farNow (wsV RX12 212 RX12 yX12_farFrom wsX12_farFrom) := goodIn_app (goodIn_of _ (by decide +kernel)) ggX12_farNow_X12_farFrom
set_option maxRecDepth 20000 in
theorem ggX12_farNow_X12_nextPassage : GoodIn wsX12_farNow wsX12_nextPassage := goodIn_r _ [27, 6, 28, 29, 30, 4, 31, 14, 15, 32, 33, 34, 35, 16, 17, 18, 19, 20, 21, 22, 23, 36, 37, 38, 39, 40, 41, 42, 43, 44, 45, 46, 47, 48, 49, 50, 51, 52, 53, 54, 55, 56, 57, 58, 59, 60, 61, 62, 63, 64, 65, 66, 67, 68, 69, 70, 71, 72, 73, 74, 75, 76, 77, 78, 79, 80, 81, 82, 83, 84] (by decide +kernel) (by decide +kernel)
set_option maxRecDepth 20000 in
theorem gX12_farNow_X12_nextPassage : GoodIn wsX12_farNow (wsV RX12 215 RX12 yX12_nextPassage wsX12_nextPassage) := goodIn_app (goodIn_of _ (by decide +kernel)) ggX12_farNow_X12_nextPassage
set_option maxRecDepth 20000 in
theorem ggX12_farNow_X12_beyond : GoodIn wsX12_farNow wsX12_beyond := goodIn_r _ [35, 14, 15, 36, 37, 38, 39, 40, 41, 42, 43, 44, 45, 46, 47, 48, 49, 50, 51, 52, 53, 54, 55, 56, 57, 58, 59, 60, 61, 62, 63, 64, 65, 66, 67, 68, 69, 70, 71, 72, 73, 74, 75, 76, 77, 78, 79, 80, 81, 82, 83, 84] (by decide +kernel) (by decide +kernel)
set_option maxRecDepth 20000 in
theorem gX12_farNow_X12_beyond : GoodIn wsX12_farNow (wsV RX12 204 RX12 yX12_beyond wsX12_beyond) := goodIn_app (goodIn_of _ (by decide +kernel)) ggX12_farNow_X12_beyond
theorem dX12_farNow_0 : decode cX12_farNow 0 = .ok (.aload_n 0, 1) := by decide +kernel
theorem dX12_farNow_1 : decode cX12_farNow 1 = .ok (.iload_n 1, 1) := by decide +kernel
theorem dX12_farNow_2 : decode cX12_farNow 2 = .ok (.iload_n 2, 1) := by decide +kernel
theorem dX12_farNow_3 : decode cX12_farNow 3 = .ok (.iload_n 3, 1) := by decide +kernel
theorem dX12_farNow_4 : decode cX12_farNow 4 = .ok (.invokevirtual 212, 3) := by decide +kernel
theorem dX12_farNow_7 : decode cX12_farNow 7 = .ok (.istore 5, 2) := by decide +kernel
theorem dX12_farNow_9 : decode cX12_farNow 9 = .ok (.iload 5, 2) := by decide +kernel
theorem dX12_farNow_11 : decode cX12_farNow 11 = .ok (.iconst (-1), 1) := by decide +kernel
theorem dX12_farNow_12 : decode cX12_farNow 12 = .ok (.if_icmp .eq 8, 3) := by decide +kernel
theorem dX12_farNow_15 : decode cX12_farNow 15 = .ok (.iload 4, 2) := by decide +kernel
theorem dX12_farNow_17 : decode cX12_farNow 17 = .ok (.ifCond .ne 6, 3) := by decide +kernel
theorem dX12_farNow_20 : decode cX12_farNow 20 = .ok (.iload 5, 2) := by decide +kernel
theorem dX12_farNow_22 : decode cX12_farNow 22 = .ok (.ireturn, 1) := by decide +kernel
theorem dX12_farNow_23 : decode cX12_farNow 23 = .ok (.iload_n 2, 1) := by decide +kernel
theorem dX12_farNow_24 : decode cX12_farNow 24 = .ok (.istore 6, 2) := by decide +kernel
theorem dX12_farNow_26 : decode cX12_farNow 26 = .ok (.iconst (-1), 1) := by decide +kernel
theorem dX12_farNow_27 : decode cX12_farNow 27 = .ok (.istore 7, 2) := by decide +kernel
theorem dX12_farNow_29 : decode cX12_farNow 29 = .ok (.bipush 10, 2) := by decide +kernel
theorem dX12_farNow_31 : decode cX12_farNow 31 = .ok (.istore 8, 2) := by decide +kernel
theorem dX12_farNow_33 : decode cX12_farNow 33 = .ok (.iload 8, 2) := by decide +kernel
theorem dX12_farNow_35 : decode cX12_farNow 35 = .ok (.iload 4, 2) := by decide +kernel
theorem dX12_farNow_37 : decode cX12_farNow 37 = .ok (.if_icmp .gt 49, 3) := by decide +kernel
theorem dX12_farNow_40 : decode cX12_farNow 40 = .ok (.iload 6, 2) := by decide +kernel
theorem dX12_farNow_42 : decode cX12_farNow 42 = .ok (.iload_n 3, 1) := by decide +kernel
theorem dX12_farNow_43 : decode cX12_farNow 43 = .ok (.if_icmp .ne 7, 3) := by decide +kernel
theorem dX12_farNow_46 : decode cX12_farNow 46 = .ok (.iconst (-1), 1) := by decide +kernel
theorem dX12_farNow_47 : decode cX12_farNow 47 = .ok (.goto 10, 3) := by decide +kernel
theorem dX12_farNow_50 : decode cX12_farNow 50 = .ok (.aload_n 0, 1) := by decide +kernel
theorem dX12_farNow_51 : decode cX12_farNow 51 = .ok (.iload_n 1, 1) := by decide +kernel
theorem dX12_farNow_52 : decode cX12_farNow 52 = .ok (.iload 6, 2) := by decide +kernel
theorem dX12_farNow_54 : decode cX12_farNow 54 = .ok (.invokevirtual 215, 3) := by decide +kernel
theorem dX12_farNow_57 : decode cX12_farNow 57 = .ok (.istore 7, 2) := by decide +kernel
theorem dX12_farNow_59 : decode cX12_farNow 59 = .ok (.iload 7, 2) := by decide +kernel
theorem dX12_farNow_61 : decode cX12_farNow 61 = .ok (.iconst (-1), 1) := by decide +kernel
theorem dX12_farNow_62 : decode cX12_farNow 62 = .ok (.if_icmp .ne 8, 3) := by decide +kernel
theorem dX12_farNow_65 : decode cX12_farNow 65 = .ok (.iload 6, 2) := by decide +kernel
theorem dX12_farNow_67 : decode cX12_farNow 67 = .ok (.goto 11, 3) := by decide +kernel
theorem dX12_farNow_70 : decode cX12_farNow 70 = .ok (.aload_n 0, 1) := by decide +kernel
theorem dX12_farNow_71 : decode cX12_farNow 71 = .ok (.iload 7, 2) := by decide +kernel
theorem dX12_farNow_73 : decode cX12_farNow 73 = .ok (.iload 6, 2) := by decide +kernel
theorem dX12_farNow_75 : decode cX12_farNow 75 = .ok (.invokevirtual 204, 3) := by decide +kernel
theorem dX12_farNow_78 : decode cX12_farNow 78 = .ok (.istore 6, 2) := by decide +kernel
theorem dX12_farNow_80 : decode cX12_farNow 80 = .ok (.iinc 8 1, 3) := by decide +kernel
theorem dX12_farNow_83 : decode cX12_farNow 83 = .ok (.goto (-50), 3) := by decide +kernel
theorem dX12_farNow_86 : decode cX12_farNow 86 = .ok (.iload 7, 2) := by decide +kernel
theorem dX12_farNow_88 : decode cX12_farNow 88 = .ok (.ireturn, 1) := by decide +kernel
set_option maxRecDepth 20000 in
theorem ggX12_far_X12_isPerson : GoodIn wsX12_far wsX12_isPerson := goodIn_r _ [5, 6, 7, 8, 4, 9, 52, 53, 54, 55, 56, 57, 58, 59, 60, 61, 62, 63, 64, 65, 66, 67, 68, 69, 70, 71, 72, 73, 74, 75, 76, 77, 78, 79, 80, 81, 82, 83, 84, 85, 86, 87, 88, 89, 90, 91, 92, 93, 94, 95, 96, 97, 98, 99, 100] (by decide +kernel) (by decide +kernel)
set_option maxRecDepth 20000 in
theorem gX12_far_X12_isPerson : GoodIn wsX12_far (wsV RX12 168 RX12 yX12_isPerson wsX12_isPerson) := goodIn_app (goodIn_of _ (by decide +kernel)) ggX12_far_X12_isPerson
set_option maxRecDepth 20000 in
theorem ggX12_far_X12_isRoom : GoodIn wsX12_far wsX12_isRoom := goodIn_r _ [13, 14, 7, 8, 4, 9, 52, 53, 54, 55, 56, 57, 58, 59, 60, 61, 62, 63, 64, 65, 66, 67, 68, 69, 70, 71, 72, 73, 74, 75, 76, 77, 78, 79, 80, 81, 82, 83, 84, 85, 86, 87, 88, 89, 90, 91, 92, 93, 94, 95, 96, 97, 98, 99, 100] (by decide +kernel) (by decide +kernel)
set_option maxRecDepth 20000 in
theorem gX12_far_X12_isRoom : GoodIn wsX12_far (wsV RX12 218 RX12 yX12_isRoom wsX12_isRoom) := goodIn_app (goodIn_of _ (by decide +kernel)) ggX12_far_X12_isRoom
set_option maxRecDepth 20000 in
theorem ggX12_far_X12_within : GoodIn wsX12_far wsX12_within := goodIn_r _ [9] (by decide +kernel) (by decide +kernel)
set_option maxRecDepth 20000 in
theorem gX12_far_X12_within : GoodIn wsX12_far (va_wsS RX12 108 yX12_within wsX12_within) := goodIn_app (goodIn_of _ (by decide +kernel)) ggX12_far_X12_within
set_option maxRecDepth 20000 in
theorem ggX12_far_X12_farNow : GoodIn wsX12_far wsX12_farNow := goodIn_r _ [18, 19, 20, 21, 4, 22, 23, 24, 25, 26, 27, 28, 14, 29, 30, 31, 32, 33, 34, 35, 36, 37, 38, 39, 40, 41, 42, 43, 44, 45, 46, 47, 48, 49, 50, 51, 52, 53, 54, 55, 56, 57, 58, 59, 60, 61, 62, 63, 64, 65, 66, 67, 68, 69, 70, 71, 72, 73, 74, 75, 76, 77, 78, 79, 80, 81, 82, 83, 84, 85, 86, 87, 88, 89, 90, 91, 92, 93, 94, 95, 96, 97, 98, 99, 100] (by decide +kernel) (by decide +kernel)
set_option maxRecDepth 20000 in
theorem gX12_far_X12_farNow : GoodIn wsX12_far (wsV RX12 221 RX12 yX12_farNow wsX12_farNow) := goodIn_app (goodIn_of _ (by decide +kernel)) ggX12_far_X12_farNow
theorem dX12_far_0 : decode cX12_far 0 = .ok (.aload_n 0, 1) := by decide +kernel
theorem dX12_far_1 : decode cX12_far 1 = .ok (.iload_n 1, 1) := by decide +kernel
theorem dX12_far_2 : decode cX12_far 2 = .ok (.invokevirtual 168, 3) := by decide +kernel
theorem dX12_far_5 : decode cX12_far 5 = .ok (.ifCond .eq 19, 3) := by decide +kernel
theorem dX12_far_8 : decode cX12_far 8 = .ok (.aload_n 0, 1) := by decide +kernel
theorem dX12_far_9 : decode cX12_far 9 = .ok (.iload_n 2, 1) := by decide +kernel
theorem dX12_far_10 : decode cX12_far 10 = .ok (.invokevirtual 218, 3) := by decide +kernel
theorem dX12_far_13 : decode cX12_far 13 = .ok (.ifCond .eq 11, 3) := by decide +kernel
theorem dX12_far_16 : decode cX12_far 16 = .ok (.aload_n 0, 1) := by decide +kernel
theorem dX12_far_17 : decode cX12_far 17 = .ok (.iload_n 3, 1) := by decide +kernel
theorem dX12_far_18 : decode cX12_far 18 = .ok (.invokevirtual 218, 3) := by decide +kernel
theorem dX12_far_21 : decode cX12_far 21 = .ok (.ifCond .ne 6, 3) := by decide +kernel
theorem dX12_far_24 : decode cX12_far 24 = .ok (.bipush (-101), 2) := by decide +kernel
theorem dX12_far_26 : decode cX12_far 26 = .ok (.ireturn, 1) := by decide +kernel
theorem dX12_far_27 : decode cX12_far 27 = .ok (.iload 4, 2) := by decide +kernel
theorem dX12_far_29 : decode cX12_far 29 = .ok (.ifCond .eq 15, 3) := by decide +kernel
theorem dX12_far_32 : decode cX12_far 32 = .ok (.iload 4, 2) := by decide +kernel
theorem dX12_far_34 : decode cX12_far 34 = .ok (.bipush 10, 2) := by decide +kernel
theorem dX12_far_36 : decode cX12_far 36 = .ok (.bipush 13, 2) := by decide +kernel
theorem dX12_far_38 : decode cX12_far 38 = .ok (.invokestatic 108, 3) := by decide +kernel
theorem dX12_far_41 : decode cX12_far 41 = .ok (.ifCond .eq 15, 3) := by decide +kernel
theorem dX12_far_44 : decode cX12_far 44 = .ok (.aload_n 0, 1) := by decide +kernel
theorem dX12_far_45 : decode cX12_far 45 = .ok (.iload_n 1, 1) := by decide +kernel
theorem dX12_far_46 : decode cX12_far 46 = .ok (.iload_n 2, 1) := by decide +kernel
theorem dX12_far_47 : decode cX12_far 47 = .ok (.iload_n 3, 1) := by decide +kernel
theorem dX12_far_48 : decode cX12_far 48 = .ok (.iload 4, 2) := by decide +kernel
theorem dX12_far_50 : decode cX12_far 50 = .ok (.invokevirtual 221, 3) := by decide +kernel
theorem dX12_far_53 : decode cX12_far 53 = .ok (.goto 5, 3) := by decide +kernel
theorem dX12_far_56 : decode cX12_far 56 = .ok (.bipush (-102), 2) := by decide +kernel
theorem dX12_far_58 : decode cX12_far 58 = .ok (.ireturn, 1) := by decide +kernel
set_option maxRecDepth 20000 in
theorem ggX12_sentSteps_X12_isIn : GoodIn wsX12_sentSteps wsX12_isIn := goodIn_r _ [8] (by decide +kernel) (by decide +kernel)
set_option maxRecDepth 20000 in
theorem gX12_sentSteps_X12_isIn : GoodIn wsX12_sentSteps (va_wsS RX12 225 yX12_isIn wsX12_isIn) := goodIn_app (goodIn_of _ (by decide +kernel)) ggX12_sentSteps_X12_isIn
theorem dX12_sentSteps_0 : decode cX12_sentSteps 0 = .ok (.iconst 0, 1) := by decide +kernel
theorem dX12_sentSteps_1 : decode cX12_sentSteps 1 = .ok (.istore_n 1, 1) := by decide +kernel
theorem dX12_sentSteps_2 : decode cX12_sentSteps 2 = .ok (.iconst 0, 1) := by decide +kernel
theorem dX12_sentSteps_3 : decode cX12_sentSteps 3 = .ok (.istore_n 2, 1) := by decide +kernel
theorem dX12_sentSteps_4 : decode cX12_sentSteps 4 = .ok (.iconst 1, 1) := by decide +kernel
theorem dX12_sentSteps_5 : decode cX12_sentSteps 5 = .ok (.istore_n 3, 1) := by decide +kernel
theorem dX12_sentSteps_6 : decode cX12_sentSteps 6 = .ok (.iload_n 3, 1) := by decide +kernel
theorem dX12_sentSteps_7 : decode cX12_sentSteps 7 = .ok (.aload_n 0, 1) := by decide +kernel
theorem dX12_sentSteps_8 : decode cX12_sentSteps 8 = .ok (.getfield 150, 3) := by decide +kernel
theorem dX12_sentSteps_11 : decode cX12_sentSteps 11 = .ok (.if_icmp .ge 64, 3) := by decide +kernel
theorem dX12_sentSteps_14 : decode cX12_sentSteps 14 = .ok (.aload_n 0, 1) := by decide +kernel
theorem dX12_sentSteps_15 : decode cX12_sentSteps 15 = .ok (.getfield 59, 3) := by decide +kernel
theorem dX12_sentSteps_18 : decode cX12_sentSteps 18 = .ok (.iconst 5, 1) := by decide +kernel
theorem dX12_sentSteps_19 : decode cX12_sentSteps 19 = .ok (.aload_n 0, 1) := by decide +kernel
theorem dX12_sentSteps_20 : decode cX12_sentSteps 20 = .ok (.getfield 53, 3) := by decide +kernel
theorem dX12_sentSteps_23 : decode cX12_sentSteps 23 = .ok (.iload_n 3, 1) := by decide +kernel
theorem dX12_sentSteps_24 : decode cX12_sentSteps 24 = .ok (.iaload, 1) := by decide +kernel
theorem dX12_sentSteps_25 : decode cX12_sentSteps 25 = .ok (.imul, 1) := by decide +kernel
theorem dX12_sentSteps_26 : decode cX12_sentSteps 26 = .ok (.iload_n 3, 1) := by decide +kernel
theorem dX12_sentSteps_27 : decode cX12_sentSteps 27 = .ok (.iadd, 1) := by decide +kernel
theorem dX12_sentSteps_28 : decode cX12_sentSteps 28 = .ok (.iaload, 1) := by decide +kernel
theorem dX12_sentSteps_29 : decode cX12_sentSteps 29 = .ok (.istore 4, 2) := by decide +kernel
theorem dX12_sentSteps_31 : decode cX12_sentSteps 31 = .ok (.iload 4, 2) := by decide +kernel
theorem dX12_sentSteps_33 : decode cX12_sentSteps 33 = .ok (.iconst (-1), 1) := by decide +kernel
theorem dX12_sentSteps_34 : decode cX12_sentSteps 34 = .ok (.if_icmp .eq 16, 3) := by decide +kernel
theorem dX12_sentSteps_37 : decode cX12_sentSteps 37 = .ok (.iload_n 2, 1) := by decide +kernel
theorem dX12_sentSteps_38 : decode cX12_sentSteps 38 = .ok (.aload_n 0, 1) := by decide +kernel
theorem dX12_sentSteps_39 : decode cX12_sentSteps 39 = .ok (.getfield 53, 3) := by decide +kernel
theorem dX12_sentSteps_42 : decode cX12_sentSteps 42 = .ok (.iload_n 3, 1) := by decide +kernel
theorem dX12_sentSteps_43 : decode cX12_sentSteps 43 = .ok (.iaload, 1) := by decide +kernel
theorem dX12_sentSteps_44 : decode cX12_sentSteps 44 = .ok (.invokestatic 225, 3) := by decide +kernel
theorem dX12_sentSteps_47 : decode cX12_sentSteps 47 = .ok (.ifCond .eq 6, 3) := by decide +kernel
theorem dX12_sentSteps_50 : decode cX12_sentSteps 50 = .ok (.ldc 207, 2) := by decide +kernel
theorem dX12_sentSteps_52 : decode cX12_sentSteps 52 = .ok (.ireturn, 1) := by decide +kernel
theorem dX12_sentSteps_53 : decode cX12_sentSteps 53 = .ok (.iload_n 2, 1) := by decide +kernel
theorem dX12_sentSteps_54 : decode cX12_sentSteps 54 = .ok (.iconst 1, 1) := by decide +kernel
theorem dX12_sentSteps_55 : decode cX12_sentSteps 55 = .ok (.aload_n 0, 1) := by decide +kernel
theorem dX12_sentSteps_56 : decode cX12_sentSteps 56 = .ok (.getfield 53, 3) := by decide +kernel
theorem dX12_sentSteps_59 : decode cX12_sentSteps 59 = .ok (.iload_n 3, 1) := by decide +kernel
theorem dX12_sentSteps_60 : decode cX12_sentSteps 60 = .ok (.iaload, 1) := by decide +kernel
theorem dX12_sentSteps_61 : decode cX12_sentSteps 61 = .ok (.ishl, 1) := by decide +kernel
theorem dX12_sentSteps_62 : decode cX12_sentSteps 62 = .ok (.ior, 1) := by decide +kernel
theorem dX12_sentSteps_63 : decode cX12_sentSteps 63 = .ok (.istore_n 2, 1) := by decide +kernel
theorem dX12_sentSteps_64 : decode cX12_sentSteps 64 = .ok (.iload_n 1, 1) := by decide +kernel
theorem dX12_sentSteps_65 : decode cX12_sentSteps 65 = .ok (.iload 4, 2) := by decide +kernel
theorem dX12_sentSteps_67 : decode cX12_sentSteps 67 = .ok (.iadd, 1) := by decide +kernel
theorem dX12_sentSteps_68 : decode cX12_sentSteps 68 = .ok (.istore_n 1, 1) := by decide +kernel
theorem dX12_sentSteps_69 : decode cX12_sentSteps 69 = .ok (.iinc 3 1, 3) := by decide +kernel
theorem dX12_sentSteps_72 : decode cX12_sentSteps 72 = .ok (.goto (-66), 3) := by decide +kernel
theorem dX12_sentSteps_75 : decode cX12_sentSteps 75 = .ok (.iload_n 1, 1) := by decide +kernel
theorem dX12_sentSteps_76 : decode cX12_sentSteps 76 = .ok (.ireturn, 1) := by decide +kernel
theorem dX12_nextSent_0 : decode cX12_nextSent 0 = .ok (.aload_n 0, 1) := by decide +kernel
theorem dX12_nextSent_1 : decode cX12_nextSent 1 = .ok (.getfield 150, 3) := by decide +kernel
theorem dX12_nextSent_4 : decode cX12_nextSent 4 = .ok (.iconst 1, 1) := by decide +kernel
theorem dX12_nextSent_5 : decode cX12_nextSent 5 = .ok (.isub, 1) := by decide +kernel
theorem dX12_nextSent_6 : decode cX12_nextSent 6 = .ok (.istore_n 1, 1) := by decide +kernel
theorem dX12_nextSent_7 : decode cX12_nextSent 7 = .ok (.iload_n 1, 1) := by decide +kernel
theorem dX12_nextSent_8 : decode cX12_nextSent 8 = .ok (.ifCond .le 31, 3) := by decide +kernel
theorem dX12_nextSent_11 : decode cX12_nextSent 11 = .ok (.aload_n 0, 1) := by decide +kernel
theorem dX12_nextSent_12 : decode cX12_nextSent 12 = .ok (.getfield 53, 3) := by decide +kernel
theorem dX12_nextSent_15 : decode cX12_nextSent 15 = .ok (.iload_n 1, 1) := by decide +kernel
theorem dX12_nextSent_16 : decode cX12_nextSent 16 = .ok (.iaload, 1) := by decide +kernel
theorem dX12_nextSent_17 : decode cX12_nextSent 17 = .ok (.aload_n 0, 1) := by decide +kernel
theorem dX12_nextSent_18 : decode cX12_nextSent 18 = .ok (.getfield 156, 3) := by decide +kernel
theorem dX12_nextSent_21 : decode cX12_nextSent 21 = .ok (.iconst 1, 1) := by decide +kernel
theorem dX12_nextSent_22 : decode cX12_nextSent 22 = .ok (.isub, 1) := by decide +kernel
theorem dX12_nextSent_23 : decode cX12_nextSent 23 = .ok (.if_icmp .ne 16, 3) := by decide +kernel
theorem dX12_nextSent_26 : decode cX12_nextSent 26 = .ok (.aload_n 0, 1) := by decide +kernel
theorem dX12_nextSent_27 : decode cX12_nextSent 27 = .ok (.getfield 53, 3) := by decide +kernel
theorem dX12_nextSent_30 : decode cX12_nextSent 30 = .ok (.iload_n 1, 1) := by decide +kernel
theorem dX12_nextSent_31 : decode cX12_nextSent 31 = .ok (.iconst 0, 1) := by decide +kernel
theorem dX12_nextSent_32 : decode cX12_nextSent 32 = .ok (.iastore, 1) := by decide +kernel
theorem dX12_nextSent_33 : decode cX12_nextSent 33 = .ok (.iinc 1 (-1), 3) := by decide +kernel
theorem dX12_nextSent_36 : decode cX12_nextSent 36 = .ok (.goto (-29), 3) := by decide +kernel
theorem dX12_nextSent_39 : decode cX12_nextSent 39 = .ok (.iload_n 1, 1) := by decide +kernel
theorem dX12_nextSent_40 : decode cX12_nextSent 40 = .ok (.ifCond .ne 5, 3) := by decide +kernel
theorem dX12_nextSent_43 : decode cX12_nextSent 43 = .ok (.iconst 0, 1) := by decide +kernel
theorem dX12_nextSent_44 : decode cX12_nextSent 44 = .ok (.ireturn, 1) := by decide +kernel
theorem dX12_nextSent_45 : decode cX12_nextSent 45 = .ok (.aload_n 0, 1) := by decide +kernel
theorem dX12_nextSent_46 : decode cX12_nextSent 46 = .ok (.getfield 53, 3) := by decide +kernel
theorem dX12_nextSent_49 : decode cX12_nextSent 49 = .ok (.iload_n 1, 1) := by decide +kernel
theorem dX12_nextSent_50 : decode cX12_nextSent 50 = .ok (.dup2, 1) := by decide +kernel
theorem dX12_nextSent_51 : decode cX12_nextSent 51 = .ok (.iaload, 1) := by decide +kernel
theorem dX12_nextSent_52 : decode cX12_nextSent 52 = .ok (.iconst 1, 1) := by decide +kernel
theorem dX12_nextSent_53 : decode cX12_nextSent 53 = .ok (.iadd, 1) := by decide +kernel
theorem dX12_nextSent_54 : decode cX12_nextSent 54 = .ok (.iastore, 1) := by decide +kernel
theorem dX12_nextSent_55 : decode cX12_nextSent 55 = .ok (.iconst 1, 1) := by decide +kernel
theorem dX12_nextSent_56 : decode cX12_nextSent 56 = .ok (.ireturn, 1) := by decide +kernel
