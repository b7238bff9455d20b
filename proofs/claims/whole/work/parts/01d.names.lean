theorem dX3_item_55 : decode cX3_item 55 = .ok (.i2l, 1) := by decide +kernel
theorem dX3_item_56 : decode cX3_item 56 = .ok (.goto 6, 3) := by decide +kernel
theorem dX3_item_59 : decode cX3_item 59 = .ok (.ldc2_w 72, 3) := by decide +kernel
theorem dX3_item_62 : decode cX3_item 62 = .ok (.lreturn, 1) := by decide +kernel
set_option maxRecDepth 20000 in
theorem ggX3_begins_X3_fails : GoodIn wsX3_begins wsX3_fails := goodIn_r _ [11, 12, 13, 14, 15, 16, 17, 18, 19, 20, 21, 22, 23, 24, 25, 26, 27, 28, 29, 30, 31, 32, 33, 34, 35, 36, 37, 38, 39, 40, 41, 42, 43] (by decide +kernel) (by decide +kernel)
set_option maxRecDepth 20000 in
theorem gX3_begins_X3_fails : GoodIn wsX3_begins (wsV RX3 85 RX3 yX3_fails wsX3_fails) := goodIn_app (goodIn_of _ (by decide +kernel)) ggX3_begins_X3_fails
theorem dX3_begins_0 : decode cX3_begins 0 = .ok (.aload_n 0, 1) := by decide +kernel
theorem dX3_begins_1 : decode cX3_begins 1 = .ok (.getfield 82, 3) := by decide +kernel
theorem dX3_begins_4 : decode cX3_begins 4 = .ok (.bipush 64, 2) := by decide +kernel
theorem dX3_begins_6 : decode cX3_begins 6 = .ok (.if_icmp .ne 11, 3) := by decide +kernel
theorem dX3_begins_9 : decode cX3_begins 9 = .ok (.aload_n 0, 1) := by decide +kernel
theorem dX3_begins_10 : decode cX3_begins 10 = .ok (.iconst 5, 1) := by decide +kernel
theorem dX3_begins_11 : decode cX3_begins 11 = .ok (.iload_n 1, 1) := by decide +kernel
theorem dX3_begins_12 : decode cX3_begins 12 = .ok (.invokevirtual 85, 3) := by decide +kernel
theorem dX3_begins_15 : decode cX3_begins 15 = .ok (.iconst 0, 1) := by decide +kernel
theorem dX3_begins_16 : decode cX3_begins 16 = .ok (.ireturn, 1) := by decide +kernel
theorem dX3_begins_17 : decode cX3_begins 17 = .ok (.aload_n 0, 1) := by decide +kernel
theorem dX3_begins_18 : decode cX3_begins 18 = .ok (.dup, 1) := by decide +kernel
theorem dX3_begins_19 : decode cX3_begins 19 = .ok (.getfield 82, 3) := by decide +kernel
theorem dX3_begins_22 : decode cX3_begins 22 = .ok (.iconst 1, 1) := by decide +kernel
theorem dX3_begins_23 : decode cX3_begins 23 = .ok (.iadd, 1) := by decide +kernel
theorem dX3_begins_24 : decode cX3_begins 24 = .ok (.putfield 82, 3) := by decide +kernel
theorem dX3_begins_27 : decode cX3_begins 27 = .ok (.aload_n 0, 1) := by decide +kernel
theorem dX3_begins_28 : decode cX3_begins 28 = .ok (.dup, 1) := by decide +kernel
theorem dX3_begins_29 : decode cX3_begins 29 = .ok (.getfield 89, 3) := by decide +kernel
theorem dX3_begins_32 : decode cX3_begins 32 = .ok (.iconst 1, 1) := by decide +kernel
theorem dX3_begins_33 : decode cX3_begins 33 = .ok (.iadd, 1) := by decide +kernel
theorem dX3_begins_34 : decode cX3_begins 34 = .ok (.putfield 89, 3) := by decide +kernel
theorem dX3_begins_37 : decode cX3_begins 37 = .ok (.aload_n 0, 1) := by decide +kernel
theorem dX3_begins_38 : decode cX3_begins 38 = .ok (.getfield 40, 3) := by decide +kernel
theorem dX3_begins_41 : decode cX3_begins 41 = .ok (.aload_n 0, 1) := by decide +kernel
theorem dX3_begins_42 : decode cX3_begins 42 = .ok (.getfield 92, 3) := by decide +kernel
theorem dX3_begins_45 : decode cX3_begins 45 = .ok (.iload_n 1, 1) := by decide +kernel
theorem dX3_begins_46 : decode cX3_begins 46 = .ok (.iastore, 1) := by decide +kernel
theorem dX3_begins_47 : decode cX3_begins 47 = .ok (.aload_n 0, 1) := by decide +kernel
theorem dX3_begins_48 : decode cX3_begins 48 = .ok (.getfield 43, 3) := by decide +kernel
theorem dX3_begins_51 : decode cX3_begins 51 = .ok (.aload_n 0, 1) := by decide +kernel
theorem dX3_begins_52 : decode cX3_begins 52 = .ok (.getfield 92, 3) := by decide +kernel
theorem dX3_begins_55 : decode cX3_begins 55 = .ok (.iload_n 2, 1) := by decide +kernel
theorem dX3_begins_56 : decode cX3_begins 56 = .ok (.iastore, 1) := by decide +kernel
theorem dX3_begins_57 : decode cX3_begins 57 = .ok (.aload_n 0, 1) := by decide +kernel
theorem dX3_begins_58 : decode cX3_begins 58 = .ok (.getfield 46, 3) := by decide +kernel
theorem dX3_begins_61 : decode cX3_begins 61 = .ok (.aload_n 0, 1) := by decide +kernel
theorem dX3_begins_62 : decode cX3_begins 62 = .ok (.getfield 92, 3) := by decide +kernel
theorem dX3_begins_65 : decode cX3_begins 65 = .ok (.iconst 0, 1) := by decide +kernel
theorem dX3_begins_66 : decode cX3_begins 66 = .ok (.iastore, 1) := by decide +kernel
theorem dX3_begins_67 : decode cX3_begins 67 = .ok (.aload_n 0, 1) := by decide +kernel
theorem dX3_begins_68 : decode cX3_begins 68 = .ok (.dup, 1) := by decide +kernel
theorem dX3_begins_69 : decode cX3_begins 69 = .ok (.getfield 92, 3) := by decide +kernel
theorem dX3_begins_72 : decode cX3_begins 72 = .ok (.iconst 1, 1) := by decide +kernel
theorem dX3_begins_73 : decode cX3_begins 73 = .ok (.iadd, 1) := by decide +kernel
theorem dX3_begins_74 : decode cX3_begins 74 = .ok (.putfield 92, 3) := by decide +kernel
theorem dX3_begins_77 : decode cX3_begins 77 = .ok (.iconst 1, 1) := by decide +kernel
theorem dX3_begins_78 : decode cX3_begins 78 = .ok (.ireturn, 1) := by decide +kernel
theorem dX3_fails_0 : decode cX3_fails 0 = .ok (.aload_n 0, 1) := by decide +kernel
theorem dX3_fails_1 : decode cX3_fails 1 = .ok (.iload_n 1, 1) := by decide +kernel
theorem dX3_fails_2 : decode cX3_fails 2 = .ok (.putfield 95, 3) := by decide +kernel
theorem dX3_fails_5 : decode cX3_fails 5 = .ok (.aload_n 0, 1) := by decide +kernel
theorem dX3_fails_6 : decode cX3_fails 6 = .ok (.iload_n 2, 1) := by decide +kernel
theorem dX3_fails_7 : decode cX3_fails 7 = .ok (.putfield 98, 3) := by decide +kernel
theorem dX3_fails_10 : decode cX3_fails 10 = .ok (.return_, 1) := by decide +kernel
set_option maxRecDepth 20000 in
theorem ggX3_asks_X3_in : GoodIn wsX3_asks wsX3_in := goodIn_r _ [4] (by decide +kernel) (by decide +kernel)
set_option maxRecDepth 20000 in
theorem gX3_asks_X3_in : GoodIn wsX3_asks (va_wsS RX3 68 yX3_in wsX3_in) := goodIn_app (goodIn_of _ (by decide +kernel)) ggX3_asks_X3_in
theorem dX3_asks_0 : decode cX3_asks 0 = .ok (.iload_n 0, 1) := by decide +kernel
theorem dX3_asks_1 : decode cX3_asks 1 = .ok (.bipush 8, 2) := by decide +kernel
theorem dX3_asks_3 : decode cX3_asks 3 = .ok (.bipush 11, 2) := by decide +kernel
theorem dX3_asks_5 : decode cX3_asks 5 = .ok (.invokestatic 68, 3) := by decide +kernel
theorem dX3_asks_8 : decode cX3_asks 8 = .ok (.ifCond .ne 9, 3) := by decide +kernel
theorem dX3_asks_11 : decode cX3_asks 11 = .ok (.iload_n 0, 1) := by decide +kernel
theorem dX3_asks_12 : decode cX3_asks 12 = .ok (.bipush 16, 2) := by decide +kernel
theorem dX3_asks_14 : decode cX3_asks 14 = .ok (.if_icmp .ne 7, 3) := by decide +kernel
theorem dX3_asks_17 : decode cX3_asks 17 = .ok (.iconst 1, 1) := by decide +kernel
theorem dX3_asks_18 : decode cX3_asks 18 = .ok (.goto 4, 3) := by decide +kernel
theorem dX3_asks_21 : decode cX3_asks 21 = .ok (.iconst 0, 1) := by decide +kernel
theorem dX3_asks_22 : decode cX3_asks 22 = .ok (.ireturn, 1) := by decide +kernel
set_option maxRecDepth 20000 in
theorem ggX3_given_X3_fails : GoodIn wsX3_given wsX3_fails := goodIn_r _ [12, 13, 14, 24, 25, 26, 27, 28, 29, 30, 31, 32, 33, 34, 35, 36, 37, 38, 39, 40, 41, 42, 43, 44, 45, 46, 47, 48, 49, 50, 51, 52, 53] (by decide +kernel) (by decide +kernel)
set_option maxRecDepth 20000 in
theorem gX3_given_X3_fails : GoodIn wsX3_given (wsV RX3 85 RX3 yX3_fails wsX3_fails) := goodIn_app (goodIn_of _ (by decide +kernel)) ggX3_given_X3_fails
set_option maxRecDepth 20000 in
theorem ggX3_given_X3_itemAt : GoodIn wsX3_given wsX3_itemAt := goodIn_r _ [18, 19, 20, 8, 9, 10, 11, 12, 13, 14, 21, 22, 23, 24, 25, 26, 27, 28, 29, 30, 31, 32, 33, 34, 35, 36, 37, 38, 39, 40, 41, 42, 43, 44, 45, 46, 47, 48, 49, 50, 51, 52, 53] (by decide +kernel) (by decide +kernel)
set_option maxRecDepth 20000 in
theorem gX3_given_X3_itemAt : GoodIn wsX3_given (wsV RX3 101 RX3 yX3_itemAt wsX3_itemAt) := goodIn_app (goodIn_of _ (by decide +kernel)) ggX3_given_X3_itemAt
theorem dX3_given_0 : decode cX3_given 0 = .ok (.aload_n 0, 1) := by decide +kernel
theorem dX3_given_1 : decode cX3_given 1 = .ok (.getfield 25, 3) := by decide +kernel
theorem dX3_given_4 : decode cX3_given 4 = .ok (.iload_n 1, 1) := by decide +kernel
theorem dX3_given_5 : decode cX3_given 5 = .ok (.iaload, 1) := by decide +kernel
theorem dX3_given_6 : decode cX3_given 6 = .ok (.istore_n 3, 1) := by decide +kernel
theorem dX3_given_7 : decode cX3_given 7 = .ok (.aload_n 0, 1) := by decide +kernel
theorem dX3_given_8 : decode cX3_given 8 = .ok (.getfield 22, 3) := by decide +kernel
theorem dX3_given_11 : decode cX3_given 11 = .ok (.iload_n 1, 1) := by decide +kernel
theorem dX3_given_12 : decode cX3_given 12 = .ok (.iaload, 1) := by decide +kernel
theorem dX3_given_13 : decode cX3_given 13 = .ok (.tableswitch 228 0 15 #[79, 83, 87, 87, 119, 128, 137, 150, 228, 228, 228, 228, 163, 182, 203, 210], 79) := by decide +kernel
theorem dX3_given_92 : decode cX3_given 92 = .ok (.iload_n 2, 1) := by decide +kernel
theorem dX3_given_93 : decode cX3_given 93 = .ok (.iload_n 3, 1) := by decide +kernel
theorem dX3_given_94 : decode cX3_given 94 = .ok (.iadd, 1) := by decide +kernel
theorem dX3_given_95 : decode cX3_given 95 = .ok (.ireturn, 1) := by decide +kernel
theorem dX3_given_96 : decode cX3_given 96 = .ok (.iload_n 2, 1) := by decide +kernel
theorem dX3_given_97 : decode cX3_given 97 = .ok (.iload_n 3, 1) := by decide +kernel
theorem dX3_given_98 : decode cX3_given 98 = .ok (.imul, 1) := by decide +kernel
theorem dX3_given_99 : decode cX3_given 99 = .ok (.ireturn, 1) := by decide +kernel
theorem dX3_given_100 : decode cX3_given 100 = .ok (.iload_n 3, 1) := by decide +kernel
theorem dX3_given_101 : decode cX3_given 101 = .ok (.ifCond .ne 11, 3) := by decide +kernel
theorem dX3_given_104 : decode cX3_given 104 = .ok (.aload_n 0, 1) := by decide +kernel
theorem dX3_given_105 : decode cX3_given 105 = .ok (.iconst 1, 1) := by decide +kernel
theorem dX3_given_106 : decode cX3_given 106 = .ok (.iload_n 1, 1) := by decide +kernel
theorem dX3_given_107 : decode cX3_given 107 = .ok (.invokevirtual 85, 3) := by decide +kernel
theorem dX3_given_110 : decode cX3_given 110 = .ok (.iconst 0, 1) := by decide +kernel
theorem dX3_given_111 : decode cX3_given 111 = .ok (.ireturn, 1) := by decide +kernel
theorem dX3_given_112 : decode cX3_given 112 = .ok (.aload_n 0, 1) := by decide +kernel
theorem dX3_given_113 : decode cX3_given 113 = .ok (.getfield 22, 3) := by decide +kernel
theorem dX3_given_116 : decode cX3_given 116 = .ok (.iload_n 1, 1) := by decide +kernel
theorem dX3_given_117 : decode cX3_given 117 = .ok (.iaload, 1) := by decide +kernel
theorem dX3_given_118 : decode cX3_given 118 = .ok (.iconst 2, 1) := by decide +kernel
theorem dX3_given_119 : decode cX3_given 119 = .ok (.if_icmp .ne 9, 3) := by decide +kernel
theorem dX3_given_122 : decode cX3_given 122 = .ok (.iload_n 2, 1) := by decide +kernel
theorem dX3_given_123 : decode cX3_given 123 = .ok (.iload_n 3, 1) := by decide +kernel
theorem dX3_given_124 : decode cX3_given 124 = .ok (.idiv, 1) := by decide +kernel
theorem dX3_given_125 : decode cX3_given 125 = .ok (.goto 6, 3) := by decide +kernel
theorem dX3_given_128 : decode cX3_given 128 = .ok (.iload_n 2, 1) := by decide +kernel
theorem dX3_given_129 : decode cX3_given 129 = .ok (.iload_n 3, 1) := by decide +kernel
theorem dX3_given_130 : decode cX3_given 130 = .ok (.irem, 1) := by decide +kernel
theorem dX3_given_131 : decode cX3_given 131 = .ok (.ireturn, 1) := by decide +kernel
theorem dX3_given_132 : decode cX3_given 132 = .ok (.iload_n 2, 1) := by decide +kernel
theorem dX3_given_133 : decode cX3_given 133 = .ok (.aload_n 0, 1) := by decide +kernel
theorem dX3_given_134 : decode cX3_given 134 = .ok (.getfield 31, 3) := by decide +kernel
theorem dX3_given_137 : decode cX3_given 137 = .ok (.iload_n 1, 1) := by decide +kernel
theorem dX3_given_138 : decode cX3_given 138 = .ok (.iaload, 1) := by decide +kernel
theorem dX3_given_139 : decode cX3_given 139 = .ok (.iadd, 1) := by decide +kernel
theorem dX3_given_140 : decode cX3_given 140 = .ok (.ireturn, 1) := by decide +kernel
theorem dX3_given_141 : decode cX3_given 141 = .ok (.iload_n 2, 1) := by decide +kernel
theorem dX3_given_142 : decode cX3_given 142 = .ok (.aload_n 0, 1) := by decide +kernel
theorem dX3_given_143 : decode cX3_given 143 = .ok (.getfield 7, 3) := by decide +kernel
theorem dX3_given_146 : decode cX3_given 146 = .ok (.iload_n 3, 1) := by decide +kernel
theorem dX3_given_147 : decode cX3_given 147 = .ok (.iaload, 1) := by decide +kernel
theorem dX3_given_148 : decode cX3_given 148 = .ok (.iadd, 1) := by decide +kernel
theorem dX3_given_149 : decode cX3_given 149 = .ok (.ireturn, 1) := by decide +kernel
theorem dX3_given_150 : decode cX3_given 150 = .ok (.aload_n 0, 1) := by decide +kernel
theorem dX3_given_151 : decode cX3_given 151 = .ok (.aload_n 0, 1) := by decide +kernel
theorem dX3_given_152 : decode cX3_given 152 = .ok (.getfield 34, 3) := by decide +kernel
theorem dX3_given_155 : decode cX3_given 155 = .ok (.iload_n 1, 1) := by decide +kernel
theorem dX3_given_156 : decode cX3_given 156 = .ok (.iaload, 1) := by decide +kernel
theorem dX3_given_157 : decode cX3_given 157 = .ok (.iload_n 2, 1) := by decide +kernel
theorem dX3_given_158 : decode cX3_given 158 = .ok (.iload_n 1, 1) := by decide +kernel
theorem dX3_given_159 : decode cX3_given 159 = .ok (.invokevirtual 101, 3) := by decide +kernel
theorem dX3_given_162 : decode cX3_given 162 = .ok (.ireturn, 1) := by decide +kernel
theorem dX3_given_163 : decode cX3_given 163 = .ok (.aload_n 0, 1) := by decide +kernel
theorem dX3_given_164 : decode cX3_given 164 = .ok (.aload_n 0, 1) := by decide +kernel
theorem dX3_given_165 : decode cX3_given 165 = .ok (.getfield 13, 3) := by decide +kernel
theorem dX3_given_168 : decode cX3_given 168 = .ok (.iload_n 3, 1) := by decide +kernel
theorem dX3_given_169 : decode cX3_given 169 = .ok (.iaload, 1) := by decide +kernel
theorem dX3_given_170 : decode cX3_given 170 = .ok (.iload_n 2, 1) := by decide +kernel
theorem dX3_given_171 : decode cX3_given 171 = .ok (.iload_n 1, 1) := by decide +kernel
theorem dX3_given_172 : decode cX3_given 172 = .ok (.invokevirtual 101, 3) := by decide +kernel
theorem dX3_given_175 : decode cX3_given 175 = .ok (.ireturn, 1) := by decide +kernel
theorem dX3_given_176 : decode cX3_given 176 = .ok (.aload_n 0, 1) := by decide +kernel
theorem dX3_given_177 : decode cX3_given 177 = .ok (.getfield 7, 3) := by decide +kernel
theorem dX3_given_180 : decode cX3_given 180 = .ok (.iload_n 3, 1) := by decide +kernel
theorem dX3_given_181 : decode cX3_given 181 = .ok (.dup2, 1) := by decide +kernel
theorem dX3_given_182 : decode cX3_given 182 = .ok (.iaload, 1) := by decide +kernel
theorem dX3_given_183 : decode cX3_given 183 = .ok (.iconst 1, 1) := by decide +kernel
theorem dX3_given_184 : decode cX3_given 184 = .ok (.iadd, 1) := by decide +kernel
theorem dX3_given_185 : decode cX3_given 185 = .ok (.iastore, 1) := by decide +kernel
theorem dX3_given_186 : decode cX3_given 186 = .ok (.iload_n 2, 1) := by decide +kernel
theorem dX3_given_187 : decode cX3_given 187 = .ok (.aload_n 0, 1) := by decide +kernel
theorem dX3_given_188 : decode cX3_given 188 = .ok (.getfield 7, 3) := by decide +kernel
theorem dX3_given_191 : decode cX3_given 191 = .ok (.iload_n 3, 1) := by decide +kernel
theorem dX3_given_192 : decode cX3_given 192 = .ok (.iaload, 1) := by decide +kernel
theorem dX3_given_193 : decode cX3_given 193 = .ok (.iadd, 1) := by decide +kernel
theorem dX3_given_194 : decode cX3_given 194 = .ok (.ireturn, 1) := by decide +kernel
theorem dX3_given_195 : decode cX3_given 195 = .ok (.aload_n 0, 1) := by decide +kernel
theorem dX3_given_196 : decode cX3_given 196 = .ok (.getfield 37, 3) := by decide +kernel
theorem dX3_given_199 : decode cX3_given 199 = .ok (.iload_n 1, 1) := by decide +kernel
theorem dX3_given_200 : decode cX3_given 200 = .ok (.dup2, 1) := by decide +kernel
theorem dX3_given_201 : decode cX3_given 201 = .ok (.iaload, 1) := by decide +kernel
theorem dX3_given_202 : decode cX3_given 202 = .ok (.iconst 1, 1) := by decide +kernel
theorem dX3_given_203 : decode cX3_given 203 = .ok (.iadd, 1) := by decide +kernel
theorem dX3_given_204 : decode cX3_given 204 = .ok (.iastore, 1) := by decide +kernel
theorem dX3_given_205 : decode cX3_given 205 = .ok (.iload_n 2, 1) := by decide +kernel
theorem dX3_given_206 : decode cX3_given 206 = .ok (.iload_n 3, 1) := by decide +kernel
theorem dX3_given_207 : decode cX3_given 207 = .ok (.aload_n 0, 1) := by decide +kernel
theorem dX3_given_208 : decode cX3_given 208 = .ok (.getfield 37, 3) := by decide +kernel
theorem dX3_given_211 : decode cX3_given 211 = .ok (.iload_n 1, 1) := by decide +kernel
theorem dX3_given_212 : decode cX3_given 212 = .ok (.iaload, 1) := by decide +kernel
theorem dX3_given_213 : decode cX3_given 213 = .ok (.imul, 1) := by decide +kernel
theorem dX3_given_214 : decode cX3_given 214 = .ok (.iadd, 1) := by decide +kernel
theorem dX3_given_215 : decode cX3_given 215 = .ok (.ireturn, 1) := by decide +kernel
theorem dX3_given_216 : decode cX3_given 216 = .ok (.aload_n 0, 1) := by decide +kernel
theorem dX3_given_217 : decode cX3_given 217 = .ok (.getfield 31, 3) := by decide +kernel
theorem dX3_given_220 : decode cX3_given 220 = .ok (.iload_n 1, 1) := by decide +kernel
theorem dX3_given_221 : decode cX3_given 221 = .ok (.iaload, 1) := by decide +kernel
theorem dX3_given_222 : decode cX3_given 222 = .ok (.ireturn, 1) := by decide +kernel
theorem dX3_given_223 : decode cX3_given 223 = .ok (.iload_n 2, 1) := by decide +kernel
theorem dX3_given_224 : decode cX3_given 224 = .ok (.bipush 50, 2) := by decide +kernel
theorem dX3_given_226 : decode cX3_given 226 = .ok (.irem, 1) := by decide +kernel
theorem dX3_given_227 : decode cX3_given 227 = .ok (.ifCond .ge 9, 3) := by decide +kernel
theorem dX3_given_230 : decode cX3_given 230 = .ok (.aload_n 0, 1) := by decide +kernel
theorem dX3_given_231 : decode cX3_given 231 = .ok (.iconst 4, 1) := by decide +kernel
theorem dX3_given_232 : decode cX3_given 232 = .ok (.iload_n 1, 1) := by decide +kernel
theorem dX3_given_233 : decode cX3_given 233 = .ok (.invokevirtual 85, 3) := by decide +kernel
theorem dX3_given_236 : decode cX3_given 236 = .ok (.iload_n 2, 1) := by decide +kernel
theorem dX3_given_237 : decode cX3_given 237 = .ok (.bipush 50, 2) := by decide +kernel
theorem dX3_given_239 : decode cX3_given 239 = .ok (.irem, 1) := by decide +kernel
theorem dX3_given_240 : decode cX3_given 240 = .ok (.ireturn, 1) := by decide +kernel
theorem dX3_given_241 : decode cX3_given 241 = .ok (.aload_n 0, 1) := by decide +kernel
theorem dX3_given_242 : decode cX3_given 242 = .ok (.iconst 3, 1) := by decide +kernel
theorem dX3_given_243 : decode cX3_given 243 = .ok (.iload_n 1, 1) := by decide +kernel
theorem dX3_given_244 : decode cX3_given 244 = .ok (.invokevirtual 85, 3) := by decide +kernel
theorem dX3_given_247 : decode cX3_given 247 = .ok (.iconst 0, 1) := by decide +kernel
theorem dX3_given_248 : decode cX3_given 248 = .ok (.ireturn, 1) := by decide +kernel
set_option maxRecDepth 20000 in
theorem ggX3_itemAt_X3_fails : GoodIn wsX3_itemAt wsX3_fails := goodIn_r _ [7, 8, 9, 13, 14, 15, 16, 17, 18, 19, 20, 21, 22, 23, 24, 25, 26, 27, 28, 29, 30, 31, 32, 33, 34, 35, 36, 37, 38, 39, 40, 41, 42] (by decide +kernel) (by decide +kernel)
set_option maxRecDepth 20000 in
theorem gX3_itemAt_X3_fails : GoodIn wsX3_itemAt (wsV RX3 85 RX3 yX3_fails wsX3_fails) := goodIn_app (goodIn_of _ (by decide +kernel)) ggX3_itemAt_X3_fails
set_option maxRecDepth 20000 in
theorem ggX3_itemAt_X3_in : GoodIn wsX3_itemAt wsX3_in := goodIn_r _ [12] (by decide +kernel) (by decide +kernel)
set_option maxRecDepth 20000 in
theorem gX3_itemAt_X3_in : GoodIn wsX3_itemAt (va_wsS RX3 68 yX3_in wsX3_in) := goodIn_app (goodIn_of _ (by decide +kernel)) ggX3_itemAt_X3_in
theorem dX3_itemAt_0 : decode cX3_itemAt 0 = .ok (.iload_n 1, 1) := by decide +kernel
theorem dX3_itemAt_1 : decode cX3_itemAt 1 = .ok (.ifCond .ge 11, 3) := by decide +kernel
theorem dX3_itemAt_4 : decode cX3_itemAt 4 = .ok (.aload_n 0, 1) := by decide +kernel
theorem dX3_itemAt_5 : decode cX3_itemAt 5 = .ok (.iconst 3, 1) := by decide +kernel
theorem dX3_itemAt_6 : decode cX3_itemAt 6 = .ok (.iload_n 3, 1) := by decide +kernel
theorem dX3_itemAt_7 : decode cX3_itemAt 7 = .ok (.invokevirtual 85, 3) := by decide +kernel
theorem dX3_itemAt_10 : decode cX3_itemAt 10 = .ok (.iconst 0, 1) := by decide +kernel
theorem dX3_itemAt_11 : decode cX3_itemAt 11 = .ok (.ireturn, 1) := by decide +kernel
theorem dX3_itemAt_12 : decode cX3_itemAt 12 = .ok (.iload_n 2, 1) := by decide +kernel
theorem dX3_itemAt_13 : decode cX3_itemAt 13 = .ok (.iconst 0, 1) := by decide +kernel
theorem dX3_itemAt_14 : decode cX3_itemAt 14 = .ok (.aload_n 0, 1) := by decide +kernel
theorem dX3_itemAt_15 : decode cX3_itemAt 15 = .ok (.getfield 16, 3) := by decide +kernel
theorem dX3_itemAt_18 : decode cX3_itemAt 18 = .ok (.iload_n 1, 1) := by decide +kernel
theorem dX3_itemAt_19 : decode cX3_itemAt 19 = .ok (.iaload, 1) := by decide +kernel
theorem dX3_itemAt_20 : decode cX3_itemAt 20 = .ok (.iconst 1, 1) := by decide +kernel
theorem dX3_itemAt_21 : decode cX3_itemAt 21 = .ok (.isub, 1) := by decide +kernel
theorem dX3_itemAt_22 : decode cX3_itemAt 22 = .ok (.invokestatic 68, 3) := by decide +kernel
theorem dX3_itemAt_25 : decode cX3_itemAt 25 = .ok (.ifCond .ne 11, 3) := by decide +kernel
theorem dX3_itemAt_28 : decode cX3_itemAt 28 = .ok (.aload_n 0, 1) := by decide +kernel
theorem dX3_itemAt_29 : decode cX3_itemAt 29 = .ok (.iconst 2, 1) := by decide +kernel
theorem dX3_itemAt_30 : decode cX3_itemAt 30 = .ok (.iload_n 3, 1) := by decide +kernel
theorem dX3_itemAt_31 : decode cX3_itemAt 31 = .ok (.invokevirtual 85, 3) := by decide +kernel
theorem dX3_itemAt_34 : decode cX3_itemAt 34 = .ok (.iconst 0, 1) := by decide +kernel
theorem dX3_itemAt_35 : decode cX3_itemAt 35 = .ok (.ireturn, 1) := by decide +kernel
theorem dX3_itemAt_36 : decode cX3_itemAt 36 = .ok (.aload_n 0, 1) := by decide +kernel
theorem dX3_itemAt_37 : decode cX3_itemAt 37 = .ok (.getfield 19, 3) := by decide +kernel
theorem dX3_itemAt_40 : decode cX3_itemAt 40 = .ok (.bipush 10, 2) := by decide +kernel
theorem dX3_itemAt_42 : decode cX3_itemAt 42 = .ok (.iload_n 1, 1) := by decide +kernel
theorem dX3_itemAt_43 : decode cX3_itemAt 43 = .ok (.imul, 1) := by decide +kernel
theorem dX3_itemAt_44 : decode cX3_itemAt 44 = .ok (.iload_n 2, 1) := by decide +kernel
theorem dX3_itemAt_45 : decode cX3_itemAt 45 = .ok (.iadd, 1) := by decide +kernel
theorem dX3_itemAt_46 : decode cX3_itemAt 46 = .ok (.iaload, 1) := by decide +kernel
theorem dX3_itemAt_47 : decode cX3_itemAt 47 = .ok (.ireturn, 1) := by decide +kernel
set_option maxRecDepth 20000 in
theorem ggX3_goesOn_X3_begins : GoodIn wsX3_goesOn wsX3_begins := goodIn_r _ [14, 15, 16, 2, 1, 3, 4, 17, 18, 19, 13, 20, 21, 22, 23, 24, 25, 26, 27, 28, 29, 30, 31, 32, 33, 34, 35, 36, 37, 38, 39, 40, 41, 42, 43, 44, 45, 46, 47, 48, 49, 50, 51, 52] (by decide +kernel) (by decide +kernel)
set_option maxRecDepth 20000 in
theorem gX3_goesOn_X3_begins : GoodIn wsX3_goesOn (wsV RX3 105 RX3 yX3_begins wsX3_begins) := goodIn_app (goodIn_of _ (by decide +kernel)) ggX3_goesOn_X3_begins
theorem dX3_goesOn_0 : decode cX3_goesOn 0 = .ok (.aload_n 0, 1) := by decide +kernel
theorem dX3_goesOn_1 : decode cX3_goesOn 1 = .ok (.getfield 92, 3) := by decide +kernel
theorem dX3_goesOn_4 : decode cX3_goesOn 4 = .ok (.iconst 1, 1) := by decide +kernel
theorem dX3_goesOn_5 : decode cX3_goesOn 5 = .ok (.isub, 1) := by decide +kernel
theorem dX3_goesOn_6 : decode cX3_goesOn 6 = .ok (.istore_n 2, 1) := by decide +kernel
theorem dX3_goesOn_7 : decode cX3_goesOn 7 = .ok (.aload_n 0, 1) := by decide +kernel
theorem dX3_goesOn_8 : decode cX3_goesOn 8 = .ok (.getfield 40, 3) := by decide +kernel
theorem dX3_goesOn_11 : decode cX3_goesOn 11 = .ok (.iload_n 2, 1) := by decide +kernel
theorem dX3_goesOn_12 : decode cX3_goesOn 12 = .ok (.iaload, 1) := by decide +kernel
theorem dX3_goesOn_13 : decode cX3_goesOn 13 = .ok (.istore_n 3, 1) := by decide +kernel
theorem dX3_goesOn_14 : decode cX3_goesOn 14 = .ok (.aload_n 0, 1) := by decide +kernel
theorem dX3_goesOn_15 : decode cX3_goesOn 15 = .ok (.getfield 43, 3) := by decide +kernel
theorem dX3_goesOn_18 : decode cX3_goesOn 18 = .ok (.iload_n 2, 1) := by decide +kernel
theorem dX3_goesOn_19 : decode cX3_goesOn 19 = .ok (.iaload, 1) := by decide +kernel
theorem dX3_goesOn_20 : decode cX3_goesOn 20 = .ok (.istore 4, 2) := by decide +kernel
theorem dX3_goesOn_22 : decode cX3_goesOn 22 = .ok (.aload_n 0, 1) := by decide +kernel
theorem dX3_goesOn_23 : decode cX3_goesOn 23 = .ok (.getfield 46, 3) := by decide +kernel
theorem dX3_goesOn_26 : decode cX3_goesOn 26 = .ok (.iload_n 2, 1) := by decide +kernel
theorem dX3_goesOn_27 : decode cX3_goesOn 27 = .ok (.iaload, 1) := by decide +kernel
theorem dX3_goesOn_28 : decode cX3_goesOn 28 = .ok (.istore 5, 2) := by decide +kernel
theorem dX3_goesOn_30 : decode cX3_goesOn 30 = .ok (.aload_n 0, 1) := by decide +kernel
theorem dX3_goesOn_31 : decode cX3_goesOn 31 = .ok (.getfield 46, 3) := by decide +kernel
theorem dX3_goesOn_34 : decode cX3_goesOn 34 = .ok (.iload_n 2, 1) := by decide +kernel
theorem dX3_goesOn_35 : decode cX3_goesOn 35 = .ok (.dup2, 1) := by decide +kernel
theorem dX3_goesOn_36 : decode cX3_goesOn 36 = .ok (.iaload, 1) := by decide +kernel
theorem dX3_goesOn_37 : decode cX3_goesOn 37 = .ok (.iconst 1, 1) := by decide +kernel
theorem dX3_goesOn_38 : decode cX3_goesOn 38 = .ok (.iadd, 1) := by decide +kernel
theorem dX3_goesOn_39 : decode cX3_goesOn 39 = .ok (.iastore, 1) := by decide +kernel
theorem dX3_goesOn_40 : decode cX3_goesOn 40 = .ok (.iload 5, 2) := by decide +kernel
theorem dX3_goesOn_42 : decode cX3_goesOn 42 = .ok (.ifCond .ne 19, 3) := by decide +kernel
theorem dX3_goesOn_45 : decode cX3_goesOn 45 = .ok (.aload_n 0, 1) := by decide +kernel
theorem dX3_goesOn_46 : decode cX3_goesOn 46 = .ok (.aload_n 0, 1) := by decide +kernel
theorem dX3_goesOn_47 : decode cX3_goesOn 47 = .ok (.getfield 25, 3) := by decide +kernel
theorem dX3_goesOn_50 : decode cX3_goesOn 50 = .ok (.iload_n 3, 1) := by decide +kernel
theorem dX3_goesOn_51 : decode cX3_goesOn 51 = .ok (.iaload, 1) := by decide +kernel
theorem dX3_goesOn_52 : decode cX3_goesOn 52 = .ok (.iload 4, 2) := by decide +kernel
theorem dX3_goesOn_54 : decode cX3_goesOn 54 = .ok (.invokevirtual 105, 3) := by decide +kernel
theorem dX3_goesOn_57 : decode cX3_goesOn 57 = .ok (.istore 6, 2) := by decide +kernel
theorem dX3_goesOn_59 : decode cX3_goesOn 59 = .ok (.iconst 0, 1) := by decide +kernel
theorem dX3_goesOn_60 : decode cX3_goesOn 60 = .ok (.ireturn, 1) := by decide +kernel
theorem dX3_goesOn_61 : decode cX3_goesOn 61 = .ok (.aload_n 0, 1) := by decide +kernel
theorem dX3_goesOn_62 : decode cX3_goesOn 62 = .ok (.getfield 22, 3) := by decide +kernel
theorem dX3_goesOn_65 : decode cX3_goesOn 65 = .ok (.iload_n 3, 1) := by decide +kernel
theorem dX3_goesOn_66 : decode cX3_goesOn 66 = .ok (.iaload, 1) := by decide +kernel
theorem dX3_goesOn_67 : decode cX3_goesOn 67 = .ok (.istore 6, 2) := by decide +kernel
theorem dX3_goesOn_69 : decode cX3_goesOn 69 = .ok (.iload 5, 2) := by decide +kernel
theorem dX3_goesOn_71 : decode cX3_goesOn 71 = .ok (.iconst 1, 1) := by decide +kernel
theorem dX3_goesOn_72 : decode cX3_goesOn 72 = .ok (.if_icmp .ne 39, 3) := by decide +kernel
theorem dX3_goesOn_75 : decode cX3_goesOn 75 = .ok (.iload 6, 2) := by decide +kernel
theorem dX3_goesOn_77 : decode cX3_goesOn 77 = .ok (.bipush 8, 2) := by decide +kernel
theorem dX3_goesOn_79 : decode cX3_goesOn 79 = .ok (.if_icmp .eq 28, 3) := by decide +kernel
theorem dX3_goesOn_82 : decode cX3_goesOn 82 = .ok (.iload 6, 2) := by decide +kernel
theorem dX3_goesOn_84 : decode cX3_goesOn 84 = .ok (.bipush 9, 2) := by decide +kernel
theorem dX3_goesOn_86 : decode cX3_goesOn 86 = .ok (.if_icmp .eq 21, 3) := by decide +kernel
theorem dX3_goesOn_89 : decode cX3_goesOn 89 = .ok (.iload 6, 2) := by decide +kernel
theorem dX3_goesOn_91 : decode cX3_goesOn 91 = .ok (.bipush 16, 2) := by decide +kernel
theorem dX3_goesOn_93 : decode cX3_goesOn 93 = .ok (.if_icmp .eq 14, 3) := by decide +kernel
theorem dX3_goesOn_96 : decode cX3_goesOn 96 = .ok (.iload 6, 2) := by decide +kernel
theorem dX3_goesOn_98 : decode cX3_goesOn 98 = .ok (.bipush 10, 2) := by decide +kernel
theorem dX3_goesOn_100 : decode cX3_goesOn 100 = .ok (.if_icmp .ne 11, 3) := by decide +kernel
theorem dX3_goesOn_103 : decode cX3_goesOn 103 = .ok (.iload_n 1, 1) := by decide +kernel
theorem dX3_goesOn_104 : decode cX3_goesOn 104 = .ok (.ifCond .eq 7, 3) := by decide +kernel
theorem dX3_goesOn_107 : decode cX3_goesOn 107 = .ok (.iconst 1, 1) := by decide +kernel
theorem dX3_goesOn_108 : decode cX3_goesOn 108 = .ok (.goto 4, 3) := by decide +kernel
theorem dX3_goesOn_111 : decode cX3_goesOn 111 = .ok (.iconst 0, 1) := by decide +kernel
theorem dX3_goesOn_112 : decode cX3_goesOn 112 = .ok (.istore 7, 2) := by decide +kernel
theorem dX3_goesOn_114 : decode cX3_goesOn 114 = .ok (.iload 7, 2) := by decide +kernel
theorem dX3_goesOn_116 : decode cX3_goesOn 116 = .ok (.ifCond .eq 60, 3) := by decide +kernel
theorem dX3_goesOn_119 : decode cX3_goesOn 119 = .ok (.aload_n 0, 1) := by decide +kernel
theorem dX3_goesOn_120 : decode cX3_goesOn 120 = .ok (.getfield 49, 3) := by decide +kernel
theorem dX3_goesOn_123 : decode cX3_goesOn 123 = .ok (.iload_n 2, 1) := by decide +kernel
theorem dX3_goesOn_124 : decode cX3_goesOn 124 = .ok (.iload_n 1, 1) := by decide +kernel
theorem dX3_goesOn_125 : decode cX3_goesOn 125 = .ok (.iastore, 1) := by decide +kernel
theorem dX3_goesOn_126 : decode cX3_goesOn 126 = .ok (.aload_n 0, 1) := by decide +kernel
theorem dX3_goesOn_127 : decode cX3_goesOn 127 = .ok (.iload 6, 2) := by decide +kernel
theorem dX3_goesOn_129 : decode cX3_goesOn 129 = .ok (.bipush 9, 2) := by decide +kernel
theorem dX3_goesOn_131 : decode cX3_goesOn 131 = .ok (.if_icmp .ne 12, 3) := by decide +kernel
theorem dX3_goesOn_134 : decode cX3_goesOn 134 = .ok (.aload_n 0, 1) := by decide +kernel
theorem dX3_goesOn_135 : decode cX3_goesOn 135 = .ok (.getfield 25, 3) := by decide +kernel
theorem dX3_goesOn_138 : decode cX3_goesOn 138 = .ok (.iload_n 3, 1) := by decide +kernel
theorem dX3_goesOn_139 : decode cX3_goesOn 139 = .ok (.iaload, 1) := by decide +kernel
theorem dX3_goesOn_140 : decode cX3_goesOn 140 = .ok (.goto 9, 3) := by decide +kernel
theorem dX3_goesOn_143 : decode cX3_goesOn 143 = .ok (.aload_n 0, 1) := by decide +kernel
theorem dX3_goesOn_144 : decode cX3_goesOn 144 = .ok (.getfield 28, 3) := by decide +kernel
theorem dX3_goesOn_147 : decode cX3_goesOn 147 = .ok (.iload_n 3, 1) := by decide +kernel
theorem dX3_goesOn_148 : decode cX3_goesOn 148 = .ok (.iaload, 1) := by decide +kernel
theorem dX3_goesOn_149 : decode cX3_goesOn 149 = .ok (.iload 6, 2) := by decide +kernel
theorem dX3_goesOn_151 : decode cX3_goesOn 151 = .ok (.bipush 8, 2) := by decide +kernel
theorem dX3_goesOn_153 : decode cX3_goesOn 153 = .ok (.if_icmp .eq 10, 3) := by decide +kernel
theorem dX3_goesOn_156 : decode cX3_goesOn 156 = .ok (.iload 6, 2) := by decide +kernel
theorem dX3_goesOn_158 : decode cX3_goesOn 158 = .ok (.bipush 9, 2) := by decide +kernel
theorem dX3_goesOn_160 : decode cX3_goesOn 160 = .ok (.if_icmp .ne 7, 3) := by decide +kernel
theorem dX3_goesOn_163 : decode cX3_goesOn 163 = .ok (.iload_n 1, 1) := by decide +kernel
theorem dX3_goesOn_164 : decode cX3_goesOn 164 = .ok (.goto 5, 3) := by decide +kernel
theorem dX3_goesOn_167 : decode cX3_goesOn 167 = .ok (.iload 4, 2) := by decide +kernel
theorem dX3_goesOn_169 : decode cX3_goesOn 169 = .ok (.invokevirtual 105, 3) := by decide +kernel
theorem dX3_goesOn_172 : decode cX3_goesOn 172 = .ok (.istore 8, 2) := by decide +kernel
theorem dX3_goesOn_174 : decode cX3_goesOn 174 = .ok (.iconst 0, 1) := by decide +kernel
theorem dX3_goesOn_175 : decode cX3_goesOn 175 = .ok (.ireturn, 1) := by decide +kernel
theorem dX3_goesOn_176 : decode cX3_goesOn 176 = .ok (.aload_n 0, 1) := by decide +kernel
theorem dX3_goesOn_177 : decode cX3_goesOn 177 = .ok (.iload 6, 2) := by decide +kernel
theorem dX3_goesOn_179 : decode cX3_goesOn 179 = .ok (.bipush 10, 2) := by decide +kernel
theorem dX3_goesOn_181 : decode cX3_goesOn 181 = .ok (.if_icmp .ne 14, 3) := by decide +kernel
theorem dX3_goesOn_184 : decode cX3_goesOn 184 = .ok (.iload 5, 2) := by decide +kernel
theorem dX3_goesOn_186 : decode cX3_goesOn 186 = .ok (.iconst 1, 1) := by decide +kernel
theorem dX3_goesOn_187 : decode cX3_goesOn 187 = .ok (.if_icmp .ne 8, 3) := by decide +kernel
theorem dX3_goesOn_190 : decode cX3_goesOn 190 = .ok (.iload 4, 2) := by decide +kernel
theorem dX3_goesOn_192 : decode cX3_goesOn 192 = .ok (.goto 34, 3) := by decide +kernel
theorem dX3_goesOn_195 : decode cX3_goesOn 195 = .ok (.iload 6, 2) := by decide +kernel
theorem dX3_goesOn_197 : decode cX3_goesOn 197 = .ok (.bipush 16, 2) := by decide +kernel
theorem dX3_goesOn_199 : decode cX3_goesOn 199 = .ok (.if_icmp .ne 26, 3) := by decide +kernel
theorem dX3_goesOn_202 : decode cX3_goesOn 202 = .ok (.aload_n 0, 1) := by decide +kernel
theorem dX3_goesOn_203 : decode cX3_goesOn 203 = .ok (.getfield 49, 3) := by decide +kernel
theorem dX3_goesOn_206 : decode cX3_goesOn 206 = .ok (.iload_n 2, 1) := by decide +kernel
theorem dX3_goesOn_207 : decode cX3_goesOn 207 = .ok (.iaload, 1) := by decide +kernel
theorem dX3_goesOn_208 : decode cX3_goesOn 208 = .ok (.iload_n 1, 1) := by decide +kernel
theorem dX3_goesOn_209 : decode cX3_goesOn 209 = .ok (.if_icmp .ge 12, 3) := by decide +kernel
theorem dX3_goesOn_212 : decode cX3_goesOn 212 = .ok (.aload_n 0, 1) := by decide +kernel
theorem dX3_goesOn_213 : decode cX3_goesOn 213 = .ok (.getfield 49, 3) := by decide +kernel
theorem dX3_goesOn_216 : decode cX3_goesOn 216 = .ok (.iload_n 2, 1) := by decide +kernel
theorem dX3_goesOn_217 : decode cX3_goesOn 217 = .ok (.iaload, 1) := by decide +kernel
theorem dX3_goesOn_218 : decode cX3_goesOn 218 = .ok (.goto 8, 3) := by decide +kernel
theorem dX3_goesOn_221 : decode cX3_goesOn 221 = .ok (.iload_n 1, 1) := by decide +kernel
theorem dX3_goesOn_222 : decode cX3_goesOn 222 = .ok (.goto 4, 3) := by decide +kernel
theorem dX3_goesOn_225 : decode cX3_goesOn 225 = .ok (.iload_n 1, 1) := by decide +kernel
theorem dX3_goesOn_226 : decode cX3_goesOn 226 = .ok (.putfield 109, 3) := by decide +kernel
theorem dX3_goesOn_229 : decode cX3_goesOn 229 = .ok (.iconst 1, 1) := by decide +kernel
theorem dX3_goesOn_230 : decode cX3_goesOn 230 = .ok (.ireturn, 1) := by decide +kernel
set_option maxRecDepth 20000 in
theorem ggX3_recovers_X3_begins : GoodIn wsX3_recovers wsX3_begins := goodIn_r _ [13, 14, 15, 4, 1, 8, 5, 16, 17, 18, 12, 19, 2, 20, 21, 22, 23, 24, 25, 26, 27, 28, 29, 30, 31, 32, 33, 34, 35, 36, 37, 38, 39, 40, 41, 42, 43, 44, 45, 46, 47, 48, 49, 50] (by decide +kernel) (by decide +kernel)
set_option maxRecDepth 20000 in
theorem gX3_recovers_X3_begins : GoodIn wsX3_recovers (wsV RX3 105 RX3 yX3_begins wsX3_begins) := goodIn_app (goodIn_of _ (by decide +kernel)) ggX3_recovers_X3_begins
theorem dX3_recovers_0 : decode cX3_recovers 0 = .ok (.iconst 0, 1) := by decide +kernel
theorem dX3_recovers_1 : decode cX3_recovers 1 = .ok (.istore_n 1, 1) := by decide +kernel
theorem dX3_recovers_2 : decode cX3_recovers 2 = .ok (.aload_n 0, 1) := by decide +kernel
theorem dX3_recovers_3 : decode cX3_recovers 3 = .ok (.getfield 92, 3) := by decide +kernel
theorem dX3_recovers_6 : decode cX3_recovers 6 = .ok (.ifCond .le 131, 3) := by decide +kernel
theorem dX3_recovers_9 : decode cX3_recovers 9 = .ok (.iload_n 1, 1) := by decide +kernel
theorem dX3_recovers_10 : decode cX3_recovers 10 = .ok (.ifCond .ne 127, 3) := by decide +kernel
theorem dX3_recovers_13 : decode cX3_recovers 13 = .ok (.aload_n 0, 1) := by decide +kernel
theorem dX3_recovers_14 : decode cX3_recovers 14 = .ok (.getfield 92, 3) := by decide +kernel
theorem dX3_recovers_17 : decode cX3_recovers 17 = .ok (.iconst 1, 1) := by decide +kernel
theorem dX3_recovers_18 : decode cX3_recovers 18 = .ok (.isub, 1) := by decide +kernel
theorem dX3_recovers_19 : decode cX3_recovers 19 = .ok (.istore_n 2, 1) := by decide +kernel
theorem dX3_recovers_20 : decode cX3_recovers 20 = .ok (.aload_n 0, 1) := by decide +kernel
theorem dX3_recovers_21 : decode cX3_recovers 21 = .ok (.getfield 95, 3) := by decide +kernel
theorem dX3_recovers_24 : decode cX3_recovers 24 = .ok (.iconst 5, 1) := by decide +kernel
theorem dX3_recovers_25 : decode cX3_recovers 25 = .ok (.if_icmp .eq 33, 3) := by decide +kernel
theorem dX3_recovers_28 : decode cX3_recovers 28 = .ok (.aload_n 0, 1) := by decide +kernel
theorem dX3_recovers_29 : decode cX3_recovers 29 = .ok (.getfield 22, 3) := by decide +kernel
theorem dX3_recovers_32 : decode cX3_recovers 32 = .ok (.aload_n 0, 1) := by decide +kernel
theorem dX3_recovers_33 : decode cX3_recovers 33 = .ok (.getfield 40, 3) := by decide +kernel
theorem dX3_recovers_36 : decode cX3_recovers 36 = .ok (.iload_n 2, 1) := by decide +kernel
theorem dX3_recovers_37 : decode cX3_recovers 37 = .ok (.iaload, 1) := by decide +kernel
theorem dX3_recovers_38 : decode cX3_recovers 38 = .ok (.iaload, 1) := by decide +kernel
theorem dX3_recovers_39 : decode cX3_recovers 39 = .ok (.bipush 11, 2) := by decide +kernel
theorem dX3_recovers_41 : decode cX3_recovers 41 = .ok (.if_icmp .ne 17, 3) := by decide +kernel
theorem dX3_recovers_44 : decode cX3_recovers 44 = .ok (.aload_n 0, 1) := by decide +kernel
theorem dX3_recovers_45 : decode cX3_recovers 45 = .ok (.getfield 46, 3) := by decide +kernel
theorem dX3_recovers_48 : decode cX3_recovers 48 = .ok (.iload_n 2, 1) := by decide +kernel
theorem dX3_recovers_49 : decode cX3_recovers 49 = .ok (.iaload, 1) := by decide +kernel
theorem dX3_recovers_50 : decode cX3_recovers 50 = .ok (.iconst 1, 1) := by decide +kernel
theorem dX3_recovers_51 : decode cX3_recovers 51 = .ok (.if_icmp .ne 7, 3) := by decide +kernel
theorem dX3_recovers_54 : decode cX3_recovers 54 = .ok (.iconst 1, 1) := by decide +kernel
theorem dX3_recovers_55 : decode cX3_recovers 55 = .ok (.goto 4, 3) := by decide +kernel
theorem dX3_recovers_58 : decode cX3_recovers 58 = .ok (.iconst 0, 1) := by decide +kernel
theorem dX3_recovers_59 : decode cX3_recovers 59 = .ok (.istore_n 1, 1) := by decide +kernel
theorem dX3_recovers_60 : decode cX3_recovers 60 = .ok (.iload_n 1, 1) := by decide +kernel
theorem dX3_recovers_61 : decode cX3_recovers 61 = .ok (.ifCond .eq 63, 3) := by decide +kernel
theorem dX3_recovers_64 : decode cX3_recovers 64 = .ok (.aload_n 0, 1) := by decide +kernel
theorem dX3_recovers_65 : decode cX3_recovers 65 = .ok (.iconst 0, 1) := by decide +kernel
theorem dX3_recovers_66 : decode cX3_recovers 66 = .ok (.putfield 95, 3) := by decide +kernel
theorem dX3_recovers_69 : decode cX3_recovers 69 = .ok (.aload_n 0, 1) := by decide +kernel
theorem dX3_recovers_70 : decode cX3_recovers 70 = .ok (.dup, 1) := by decide +kernel
theorem dX3_recovers_71 : decode cX3_recovers 71 = .ok (.getfield 112, 3) := by decide +kernel
theorem dX3_recovers_74 : decode cX3_recovers 74 = .ok (.iconst 1, 1) := by decide +kernel
theorem dX3_recovers_75 : decode cX3_recovers 75 = .ok (.iadd, 1) := by decide +kernel
theorem dX3_recovers_76 : decode cX3_recovers 76 = .ok (.putfield 112, 3) := by decide +kernel
theorem dX3_recovers_79 : decode cX3_recovers 79 = .ok (.aload_n 0, 1) := by decide +kernel
theorem dX3_recovers_80 : decode cX3_recovers 80 = .ok (.getfield 46, 3) := by decide +kernel
theorem dX3_recovers_83 : decode cX3_recovers 83 = .ok (.iload_n 2, 1) := by decide +kernel
theorem dX3_recovers_84 : decode cX3_recovers 84 = .ok (.iconst 2, 1) := by decide +kernel
theorem dX3_recovers_85 : decode cX3_recovers 85 = .ok (.iastore, 1) := by decide +kernel
theorem dX3_recovers_86 : decode cX3_recovers 86 = .ok (.aload_n 0, 1) := by decide +kernel
theorem dX3_recovers_87 : decode cX3_recovers 87 = .ok (.aload_n 0, 1) := by decide +kernel
theorem dX3_recovers_88 : decode cX3_recovers 88 = .ok (.getfield 28, 3) := by decide +kernel
theorem dX3_recovers_91 : decode cX3_recovers 91 = .ok (.aload_n 0, 1) := by decide +kernel
theorem dX3_recovers_92 : decode cX3_recovers 92 = .ok (.getfield 40, 3) := by decide +kernel
theorem dX3_recovers_95 : decode cX3_recovers 95 = .ok (.iload_n 2, 1) := by decide +kernel
theorem dX3_recovers_96 : decode cX3_recovers 96 = .ok (.iaload, 1) := by decide +kernel
theorem dX3_recovers_97 : decode cX3_recovers 97 = .ok (.iaload, 1) := by decide +kernel
theorem dX3_recovers_98 : decode cX3_recovers 98 = .ok (.aload_n 0, 1) := by decide +kernel
theorem dX3_recovers_99 : decode cX3_recovers 99 = .ok (.getfield 43, 3) := by decide +kernel
theorem dX3_recovers_102 : decode cX3_recovers 102 = .ok (.iload_n 2, 1) := by decide +kernel
theorem dX3_recovers_103 : decode cX3_recovers 103 = .ok (.iaload, 1) := by decide +kernel
theorem dX3_recovers_104 : decode cX3_recovers 104 = .ok (.invokevirtual 105, 3) := by decide +kernel
theorem dX3_recovers_107 : decode cX3_recovers 107 = .ok (.istore_n 3, 1) := by decide +kernel
theorem dX3_recovers_108 : decode cX3_recovers 108 = .ok (.aload_n 0, 1) := by decide +kernel
theorem dX3_recovers_109 : decode cX3_recovers 109 = .ok (.getfield 95, 3) := by decide +kernel
theorem dX3_recovers_112 : decode cX3_recovers 112 = .ok (.ifCond .ne 7, 3) := by decide +kernel
theorem dX3_recovers_115 : decode cX3_recovers 115 = .ok (.iconst 1, 1) := by decide +kernel
theorem dX3_recovers_116 : decode cX3_recovers 116 = .ok (.goto 4, 3) := by decide +kernel
theorem dX3_recovers_119 : decode cX3_recovers 119 = .ok (.iconst 0, 1) := by decide +kernel
theorem dX3_recovers_120 : decode cX3_recovers 120 = .ok (.istore_n 1, 1) := by decide +kernel
theorem dX3_recovers_121 : decode cX3_recovers 121 = .ok (.goto 13, 3) := by decide +kernel
theorem dX3_recovers_124 : decode cX3_recovers 124 = .ok (.aload_n 0, 1) := by decide +kernel
theorem dX3_recovers_125 : decode cX3_recovers 125 = .ok (.dup, 1) := by decide +kernel
theorem dX3_recovers_126 : decode cX3_recovers 126 = .ok (.getfield 92, 3) := by decide +kernel
theorem dX3_recovers_129 : decode cX3_recovers 129 = .ok (.iconst 1, 1) := by decide +kernel
theorem dX3_recovers_130 : decode cX3_recovers 130 = .ok (.isub, 1) := by decide +kernel
theorem dX3_recovers_131 : decode cX3_recovers 131 = .ok (.putfield 92, 3) := by decide +kernel
theorem dX3_recovers_134 : decode cX3_recovers 134 = .ok (.goto (-132), 3) := by decide +kernel
theorem dX3_recovers_137 : decode cX3_recovers 137 = .ok (.return_, 1) := by decide +kernel
set_option maxRecDepth 20000 in
theorem ggX3_gives_X3_begins : GoodIn wsX3_gives wsX3_begins := goodIn_r _ [11, 12, 13, 3, 1, 6, 14, 15, 16, 17, 10, 18, 2, 19, 53, 54, 55, 56, 57, 58, 59, 60, 61, 62, 63, 64, 65, 66, 67, 68, 69, 70, 71, 72, 73, 74, 75, 76, 77, 78, 79, 80, 81, 82] (by decide +kernel) (by decide +kernel)
set_option maxRecDepth 20000 in
theorem gX3_gives_X3_begins : GoodIn wsX3_gives (wsV RX3 105 RX3 yX3_begins wsX3_begins) := goodIn_app (goodIn_of _ (by decide +kernel)) ggX3_gives_X3_begins
set_option maxRecDepth 20000 in
theorem ggX3_gives_X3_recovers : GoodIn wsX3_gives wsX3_recovers := goodIn_r _ [23, 1, 2, 4, 3, 14, 24, 25, 6, 7, 8, 9, 10, 11, 12, 13, 15, 16, 17, 18, 19, 53, 54, 55, 56, 57, 58, 59, 60, 61, 62, 63, 64, 65, 66, 67, 68, 69, 70, 71, 72, 73, 74, 75, 76, 77, 78, 79, 80, 81, 82] (by decide +kernel) (by decide +kernel)
set_option maxRecDepth 20000 in
theorem gX3_gives_X3_recovers : GoodIn wsX3_gives (wsV RX3 115 RX3 yX3_recovers wsX3_recovers) := goodIn_app (goodIn_of _ (by decide +kernel)) ggX3_gives_X3_recovers
set_option maxRecDepth 20000 in
theorem ggX3_gives_X3_asks : GoodIn wsX3_gives wsX3_asks := goodIn_r _ [28, 29, 30, 10, 31] (by decide +kernel) (by decide +kernel)
set_option maxRecDepth 20000 in
theorem gX3_gives_X3_asks : GoodIn wsX3_gives (va_wsS RX3 118 yX3_asks wsX3_asks) := goodIn_app (goodIn_of _ (by decide +kernel)) ggX3_gives_X3_asks
set_option maxRecDepth 20000 in
theorem ggX3_gives_X3_goesOn : GoodIn wsX3_gives wsX3_goesOn := goodIn_r _ [35, 1, 3, 6, 14, 36, 4, 37, 25, 5, 7, 8, 9, 10, 11, 12, 13, 15, 16, 17, 18, 2, 19, 53, 54, 55, 56, 57, 58, 59, 60, 61, 62, 63, 64, 65, 66, 67, 68, 69, 70, 71, 72, 73, 74, 75, 76, 77, 78, 79, 80, 81, 82] (by decide +kernel) (by decide +kernel)
set_option maxRecDepth 20000 in
theorem gX3_gives_X3_goesOn : GoodIn wsX3_gives (wsV RX3 121 RX3 yX3_goesOn wsX3_goesOn) := goodIn_app (goodIn_of _ (by decide +kernel)) ggX3_gives_X3_goesOn
set_option maxRecDepth 20000 in
theorem ggX3_gives_X3_given : GoodIn wsX3_gives wsX3_given := goodIn_r _ [41, 36, 4, 42, 43, 44, 45, 46, 15, 16, 17, 10, 18, 2, 19, 47, 48, 49, 50, 51, 52, 29, 30, 31, 53, 54, 55, 56, 57, 58, 59, 60, 61, 62, 63, 64, 65, 66, 67, 68, 69, 70, 71, 72, 73, 74, 75, 76, 77, 78, 79, 80, 81, 82] (by decide +kernel) (by decide +kernel)
set_option maxRecDepth 20000 in
theorem gX3_gives_X3_given : GoodIn wsX3_gives (wsV RX3 124 RX3 yX3_given wsX3_given) := goodIn_app (goodIn_of _ (by decide +kernel)) ggX3_gives_X3_given
theorem dX3_gives_0 : decode cX3_gives 0 = .ok (.aload_n 0, 1) := by decide +kernel
theorem dX3_gives_1 : decode cX3_gives 1 = .ok (.iconst 0, 1) := by decide +kernel
theorem dX3_gives_2 : decode cX3_gives 2 = .ok (.putfield 92, 3) := by decide +kernel
theorem dX3_gives_5 : decode cX3_gives 5 = .ok (.aload_n 0, 1) := by decide +kernel
theorem dX3_gives_6 : decode cX3_gives 6 = .ok (.iconst 0, 1) := by decide +kernel
theorem dX3_gives_7 : decode cX3_gives 7 = .ok (.putfield 95, 3) := by decide +kernel
theorem dX3_gives_10 : decode cX3_gives 10 = .ok (.aload_n 0, 1) := by decide +kernel
theorem dX3_gives_11 : decode cX3_gives 11 = .ok (.iload_n 1, 1) := by decide +kernel
theorem dX3_gives_12 : decode cX3_gives 12 = .ok (.iload_n 2, 1) := by decide +kernel
theorem dX3_gives_13 : decode cX3_gives 13 = .ok (.invokevirtual 105, 3) := by decide +kernel
theorem dX3_gives_16 : decode cX3_gives 16 = .ok (.istore_n 3, 1) := by decide +kernel
theorem dX3_gives_17 : decode cX3_gives 17 = .ok (.aload_n 0, 1) := by decide +kernel
theorem dX3_gives_18 : decode cX3_gives 18 = .ok (.getfield 92, 3) := by decide +kernel
theorem dX3_gives_21 : decode cX3_gives 21 = .ok (.ifCond .gt 10, 3) := by decide +kernel
theorem dX3_gives_24 : decode cX3_gives 24 = .ok (.aload_n 0, 1) := by decide +kernel
theorem dX3_gives_25 : decode cX3_gives 25 = .ok (.getfield 95, 3) := by decide +kernel
theorem dX3_gives_28 : decode cX3_gives 28 = .ok (.ifCond .le 111, 3) := by decide +kernel
theorem dX3_gives_31 : decode cX3_gives 31 = .ok (.aload_n 0, 1) := by decide +kernel
theorem dX3_gives_32 : decode cX3_gives 32 = .ok (.getfield 95, 3) := by decide +kernel
theorem dX3_gives_35 : decode cX3_gives 35 = .ok (.ifCond .le 16, 3) := by decide +kernel
theorem dX3_gives_38 : decode cX3_gives 38 = .ok (.aload_n 0, 1) := by decide +kernel
theorem dX3_gives_39 : decode cX3_gives 39 = .ok (.invokevirtual 115, 3) := by decide +kernel
theorem dX3_gives_42 : decode cX3_gives 42 = .ok (.aload_n 0, 1) := by decide +kernel
theorem dX3_gives_43 : decode cX3_gives 43 = .ok (.getfield 95, 3) := by decide +kernel
theorem dX3_gives_46 : decode cX3_gives 46 = .ok (.ifCond .le 5, 3) := by decide +kernel
theorem dX3_gives_49 : decode cX3_gives 49 = .ok (.iconst 0, 1) := by decide +kernel
theorem dX3_gives_50 : decode cX3_gives 50 = .ok (.ireturn, 1) := by decide +kernel
theorem dX3_gives_51 : decode cX3_gives 51 = .ok (.aload_n 0, 1) := by decide +kernel
theorem dX3_gives_52 : decode cX3_gives 52 = .ok (.getfield 40, 3) := by decide +kernel
theorem dX3_gives_55 : decode cX3_gives 55 = .ok (.aload_n 0, 1) := by decide +kernel
theorem dX3_gives_56 : decode cX3_gives 56 = .ok (.getfield 92, 3) := by decide +kernel
theorem dX3_gives_59 : decode cX3_gives 59 = .ok (.iconst 1, 1) := by decide +kernel
theorem dX3_gives_60 : decode cX3_gives 60 = .ok (.isub, 1) := by decide +kernel
theorem dX3_gives_61 : decode cX3_gives 61 = .ok (.iaload, 1) := by decide +kernel
theorem dX3_gives_62 : decode cX3_gives 62 = .ok (.istore 4, 2) := by decide +kernel
theorem dX3_gives_64 : decode cX3_gives 64 = .ok (.iconst 1, 1) := by decide +kernel
theorem dX3_gives_65 : decode cX3_gives 65 = .ok (.istore 5, 2) := by decide +kernel
theorem dX3_gives_67 : decode cX3_gives 67 = .ok (.aload_n 0, 1) := by decide +kernel
theorem dX3_gives_68 : decode cX3_gives 68 = .ok (.getfield 22, 3) := by decide +kernel
theorem dX3_gives_71 : decode cX3_gives 71 = .ok (.iload 4, 2) := by decide +kernel
theorem dX3_gives_73 : decode cX3_gives 73 = .ok (.iaload, 1) := by decide +kernel
theorem dX3_gives_74 : decode cX3_gives 74 = .ok (.invokestatic 118, 3) := by decide +kernel
theorem dX3_gives_77 : decode cX3_gives 77 = .ok (.ifCond .eq 16, 3) := by decide +kernel
theorem dX3_gives_80 : decode cX3_gives 80 = .ok (.aload_n 0, 1) := by decide +kernel
theorem dX3_gives_81 : decode cX3_gives 81 = .ok (.aload_n 0, 1) := by decide +kernel
theorem dX3_gives_82 : decode cX3_gives 82 = .ok (.getfield 109, 3) := by decide +kernel
theorem dX3_gives_85 : decode cX3_gives 85 = .ok (.invokevirtual 121, 3) := by decide +kernel
theorem dX3_gives_88 : decode cX3_gives 88 = .ok (.istore 5, 2) := by decide +kernel
theorem dX3_gives_90 : decode cX3_gives 90 = .ok (.goto 24, 3) := by decide +kernel
theorem dX3_gives_93 : decode cX3_gives 93 = .ok (.aload_n 0, 1) := by decide +kernel
theorem dX3_gives_94 : decode cX3_gives 94 = .ok (.aload_n 0, 1) := by decide +kernel
theorem dX3_gives_95 : decode cX3_gives 95 = .ok (.iload 4, 2) := by decide +kernel
theorem dX3_gives_97 : decode cX3_gives 97 = .ok (.aload_n 0, 1) := by decide +kernel
theorem dX3_gives_98 : decode cX3_gives 98 = .ok (.getfield 43, 3) := by decide +kernel
theorem dX3_gives_101 : decode cX3_gives 101 = .ok (.aload_n 0, 1) := by decide +kernel
theorem dX3_gives_102 : decode cX3_gives 102 = .ok (.getfield 92, 3) := by decide +kernel
theorem dX3_gives_105 : decode cX3_gives 105 = .ok (.iconst 1, 1) := by decide +kernel
theorem dX3_gives_106 : decode cX3_gives 106 = .ok (.isub, 1) := by decide +kernel
theorem dX3_gives_107 : decode cX3_gives 107 = .ok (.iaload, 1) := by decide +kernel
theorem dX3_gives_108 : decode cX3_gives 108 = .ok (.invokevirtual 124, 3) := by decide +kernel
theorem dX3_gives_111 : decode cX3_gives 111 = .ok (.putfield 109, 3) := by decide +kernel
theorem dX3_gives_114 : decode cX3_gives 114 = .ok (.aload_n 0, 1) := by decide +kernel
theorem dX3_gives_115 : decode cX3_gives 115 = .ok (.getfield 95, 3) := by decide +kernel
theorem dX3_gives_118 : decode cX3_gives 118 = .ok (.ifCond .ne 18, 3) := by decide +kernel
theorem dX3_gives_121 : decode cX3_gives 121 = .ok (.iload 5, 2) := by decide +kernel
theorem dX3_gives_123 : decode cX3_gives 123 = .ok (.ifCond .eq 13, 3) := by decide +kernel
theorem dX3_gives_126 : decode cX3_gives 126 = .ok (.aload_n 0, 1) := by decide +kernel
theorem dX3_gives_127 : decode cX3_gives 127 = .ok (.dup, 1) := by decide +kernel
theorem dX3_gives_128 : decode cX3_gives 128 = .ok (.getfield 92, 3) := by decide +kernel
theorem dX3_gives_131 : decode cX3_gives 131 = .ok (.iconst 1, 1) := by decide +kernel
theorem dX3_gives_132 : decode cX3_gives 132 = .ok (.isub, 1) := by decide +kernel
theorem dX3_gives_133 : decode cX3_gives 133 = .ok (.putfield 92, 3) := by decide +kernel
theorem dX3_gives_136 : decode cX3_gives 136 = .ok (.goto (-119), 3) := by decide +kernel
theorem dX3_gives_139 : decode cX3_gives 139 = .ok (.iconst 1, 1) := by decide +kernel
theorem dX3_gives_140 : decode cX3_gives 140 = .ok (.ireturn, 1) := by decide +kernel
theorem dX3_startsCall_0 : decode cX3_startsCall 0 = .ok (.aload_n 0, 1) := by decide +kernel
theorem dX3_startsCall_1 : decode cX3_startsCall 1 = .ok (.iconst 0, 1) := by decide +kernel
theorem dX3_startsCall_2 : decode cX3_startsCall 2 = .ok (.putfield 82, 3) := by decide +kernel
theorem dX3_startsCall_5 : decode cX3_startsCall 5 = .ok (.aload_n 0, 1) := by decide +kernel
theorem dX3_startsCall_6 : decode cX3_startsCall 6 = .ok (.iconst 0, 1) := by decide +kernel
theorem dX3_startsCall_7 : decode cX3_startsCall 7 = .ok (.putfield 95, 3) := by decide +kernel
theorem dX3_startsCall_10 : decode cX3_startsCall 10 = .ok (.return_, 1) := by decide +kernel
set_option maxRecDepth 20000 in
theorem ggX3_ends_X3_failed : GoodIn wsX3_ends wsX3_failed := goodIn_r _ [9, 10, 11, 12, 13, 14, 15, 16, 17, 18, 19, 20, 21, 22, 23, 24, 25, 26, 27, 28, 29, 30, 31, 32, 33, 34, 35, 36, 37, 38, 39, 40, 41, 42] (by decide +kernel) (by decide +kernel)
set_option maxRecDepth 20000 in
theorem gX3_ends_X3_failed : GoodIn wsX3_ends (wsV RX3 131 RX3 yX3_failed wsX3_failed) := goodIn_app (goodIn_of _ (by decide +kernel)) ggX3_ends_X3_failed
theorem dX3_ends_0 : decode cX3_ends 0 = .ok (.aload_n 0, 1) := by decide +kernel
theorem dX3_ends_1 : decode cX3_ends 1 = .ok (.aload_n 0, 1) := by decide +kernel
theorem dX3_ends_2 : decode cX3_ends 2 = .ok (.getfield 82, 3) := by decide +kernel
theorem dX3_ends_5 : decode cX3_ends 5 = .ok (.putfield 128, 3) := by decide +kernel
theorem dX3_ends_8 : decode cX3_ends 8 = .ok (.aload_n 0, 1) := by decide +kernel
theorem dX3_ends_9 : decode cX3_ends 9 = .ok (.getfield 95, 3) := by decide +kernel
theorem dX3_ends_12 : decode cX3_ends 12 = .ok (.ifCond .le 19, 3) := by decide +kernel
theorem dX3_ends_15 : decode cX3_ends 15 = .ok (.aload_n 0, 1) := by decide +kernel
theorem dX3_ends_16 : decode cX3_ends 16 = .ok (.aload_n 0, 1) := by decide +kernel
theorem dX3_ends_17 : decode cX3_ends 17 = .ok (.getfield 95, 3) := by decide +kernel
theorem dX3_ends_20 : decode cX3_ends 20 = .ok (.aload_n 0, 1) := by decide +kernel
theorem dX3_ends_21 : decode cX3_ends 21 = .ok (.getfield 98, 3) := by decide +kernel
theorem dX3_ends_24 : decode cX3_ends 24 = .ok (.iconst 0, 1) := by decide +kernel
theorem dX3_ends_25 : decode cX3_ends 25 = .ok (.invokevirtual 131, 3) := by decide +kernel
theorem dX3_ends_28 : decode cX3_ends 28 = .ok (.goto 4, 3) := by decide +kernel
theorem dX3_ends_31 : decode cX3_ends 31 = .ok (.iload_n 1, 1) := by decide +kernel
theorem dX3_ends_32 : decode cX3_ends 32 = .ok (.ireturn, 1) := by decide +kernel
theorem dX3_failed_0 : decode cX3_failed 0 = .ok (.aload_n 0, 1) := by decide +kernel
theorem dX3_failed_1 : decode cX3_failed 1 = .ok (.iload_n 1, 1) := by decide +kernel
theorem dX3_failed_2 : decode cX3_failed 2 = .ok (.putfield 134, 3) := by decide +kernel
theorem dX3_failed_5 : decode cX3_failed 5 = .ok (.aload_n 0, 1) := by decide +kernel
theorem dX3_failed_6 : decode cX3_failed 6 = .ok (.iload_n 2, 1) := by decide +kernel
theorem dX3_failed_7 : decode cX3_failed 7 = .ok (.putfield 52, 3) := by decide +kernel
theorem dX3_failed_10 : decode cX3_failed 10 = .ok (.aload_n 0, 1) := by decide +kernel
theorem dX3_failed_11 : decode cX3_failed 11 = .ok (.dup, 1) := by decide +kernel
theorem dX3_failed_12 : decode cX3_failed 12 = .ok (.getfield 137, 3) := by decide +kernel
theorem dX3_failed_15 : decode cX3_failed 15 = .ok (.iconst 1, 1) := by decide +kernel
theorem dX3_failed_16 : decode cX3_failed 16 = .ok (.iadd, 1) := by decide +kernel
theorem dX3_failed_17 : decode cX3_failed 17 = .ok (.putfield 137, 3) := by decide +kernel
theorem dX3_failed_20 : decode cX3_failed 20 = .ok (.bipush (-10), 2) := by decide +kernel
theorem dX3_failed_22 : decode cX3_failed 22 = .ok (.iload_n 1, 1) := by decide +kernel
theorem dX3_failed_23 : decode cX3_failed 23 = .ok (.isub, 1) := by decide +kernel
theorem dX3_failed_24 : decode cX3_failed 24 = .ok (.ireturn, 1) := by decide +kernel
set_option maxRecDepth 20000 in
theorem ggX3_rule_X3_in : GoodIn wsX3_rule wsX3_in := goodIn_r _ [14] (by decide +kernel) (by decide +kernel)
set_option maxRecDepth 20000 in
theorem gX3_rule_X3_in : GoodIn wsX3_rule (va_wsS RX3 68 yX3_in wsX3_in) := goodIn_app (goodIn_of _ (by decide +kernel)) ggX3_rule_X3_in
set_option maxRecDepth 20000 in
theorem ggX3_rule_X3_asks : GoodIn wsX3_rule wsX3_asks := goodIn_r _ [17, 11, 12, 13, 14] (by decide +kernel) (by decide +kernel)
set_option maxRecDepth 20000 in
theorem gX3_rule_X3_asks : GoodIn wsX3_rule (va_wsS RX3 118 yX3_asks wsX3_asks) := goodIn_app (goodIn_of _ (by decide +kernel)) ggX3_rule_X3_asks
set_option maxRecDepth 20000 in
theorem ggX3_rule_X3_isRule : GoodIn wsX3_rule wsX3_isRule := goodIn_r _ [21, 1, 11, 12, 13, 14, 78, 79, 80, 81, 82, 83, 84, 85, 86, 87, 88, 89, 90, 91, 92, 93, 94, 95, 96, 97, 98, 99, 100, 101, 102, 103, 104, 105, 106, 107] (by decide +kernel) (by decide +kernel)
set_option maxRecDepth 20000 in
theorem gX3_rule_X3_isRule : GoodIn wsX3_rule (wsV RX3 140 RX3 yX3_isRule wsX3_isRule) := goodIn_app (goodIn_of _ (by decide +kernel)) ggX3_rule_X3_isRule
set_option maxRecDepth 20000 in
theorem ggX3_rule_X3_startsCall : GoodIn wsX3_rule wsX3_startsCall := goodIn_r _ [25, 26, 27, 78, 79, 80, 81, 82, 83, 84, 85, 86, 87, 88, 89, 90, 91, 92, 93, 94, 95, 96, 97, 98, 99, 100, 101, 102, 103, 104, 105, 106, 107] (by decide +kernel) (by decide +kernel)
set_option maxRecDepth 20000 in
theorem gX3_rule_X3_startsCall : GoodIn wsX3_rule (wsV RX3 143 RX3 yX3_startsCall wsX3_startsCall) := goodIn_app (goodIn_of _ (by decide +kernel)) ggX3_rule_X3_startsCall
set_option maxRecDepth 20000 in
theorem ggX3_rule_X3_gives : GoodIn wsX3_rule wsX3_gives := goodIn_r _ [31, 32, 27, 33, 4, 3, 34, 35, 36, 37, 13, 38, 26, 39, 40, 41, 42, 43, 44, 45, 46, 47, 48, 49, 50, 6, 15, 16, 17, 11, 12, 14, 51, 52, 53, 54, 5, 55, 56, 57, 58, 59, 7, 2, 8, 9, 10, 60, 61, 62, 63, 64, 65, 78, 79, 80, 81, 82, 83, 84, 85, 86, 87, 88, 89, 90, 91, 92, 93, 94, 95, 96, 97, 98, 99, 100, 101, 102, 103, 104, 105, 106, 107] (by decide +kernel) (by decide +kernel)
set_option maxRecDepth 20000 in
theorem gX3_rule_X3_gives : GoodIn wsX3_rule (wsV RX3 146 RX3 yX3_gives wsX3_gives) := goodIn_app (goodIn_of _ (by decide +kernel)) ggX3_rule_X3_gives
set_option maxRecDepth 20000 in
theorem ggX3_rule_X3_ends : GoodIn wsX3_rule wsX3_ends := goodIn_r _ [69, 26, 70, 27, 45, 71, 72, 73, 13, 74, 75, 76, 77, 78, 79, 80, 81, 82, 83, 84, 85, 86, 87, 88, 89, 90, 91, 92, 93, 94, 95, 96, 97, 98, 99, 100, 101, 102, 103, 104, 105, 106, 107] (by decide +kernel) (by decide +kernel)
set_option maxRecDepth 20000 in
theorem gX3_rule_X3_ends : GoodIn wsX3_rule (wsV RX3 149 RX3 yX3_ends wsX3_ends) := goodIn_app (goodIn_of _ (by decide +kernel)) ggX3_rule_X3_ends
theorem dX3_rule_0 : decode cX3_rule 0 = .ok (.iload_n 1, 1) := by decide +kernel
theorem dX3_rule_1 : decode cX3_rule 1 = .ok (.iconst 0, 1) := by decide +kernel
theorem dX3_rule_2 : decode cX3_rule 2 = .ok (.bipush 17, 2) := by decide +kernel
theorem dX3_rule_4 : decode cX3_rule 4 = .ok (.invokestatic 68, 3) := by decide +kernel
theorem dX3_rule_7 : decode cX3_rule 7 = .ok (.ifCond .eq 96, 3) := by decide +kernel
theorem dX3_rule_10 : decode cX3_rule 10 = .ok (.iload_n 1, 1) := by decide +kernel
theorem dX3_rule_11 : decode cX3_rule 11 = .ok (.invokestatic 118, 3) := by decide +kernel
theorem dX3_rule_14 : decode cX3_rule 14 = .ok (.ifCond .ne 9, 3) := by decide +kernel
theorem dX3_rule_17 : decode cX3_rule 17 = .ok (.iload_n 1, 1) := by decide +kernel
theorem dX3_rule_18 : decode cX3_rule 18 = .ok (.bipush 14, 2) := by decide +kernel
theorem dX3_rule_20 : decode cX3_rule 20 = .ok (.if_icmp .ne 11, 3) := by decide +kernel
theorem dX3_rule_23 : decode cX3_rule 23 = .ok (.aload_n 0, 1) := by decide +kernel
theorem dX3_rule_24 : decode cX3_rule 24 = .ok (.iload_n 2, 1) := by decide +kernel
theorem dX3_rule_25 : decode cX3_rule 25 = .ok (.invokevirtual 140, 3) := by decide +kernel
theorem dX3_rule_28 : decode cX3_rule 28 = .ok (.ifCond .eq 75, 3) := by decide +kernel
theorem dX3_rule_31 : decode cX3_rule 31 = .ok (.iload_n 1, 1) := by decide +kernel
theorem dX3_rule_32 : decode cX3_rule 32 = .ok (.iconst 4, 1) := by decide +kernel
theorem dX3_rule_33 : decode cX3_rule 33 = .ok (.if_icmp .eq 14, 3) := by decide +kernel
theorem dX3_rule_36 : decode cX3_rule 36 = .ok (.iload_n 1, 1) := by decide +kernel
theorem dX3_rule_37 : decode cX3_rule 37 = .ok (.iconst 5, 1) := by decide +kernel
theorem dX3_rule_38 : decode cX3_rule 38 = .ok (.if_icmp .eq 9, 3) := by decide +kernel
theorem dX3_rule_41 : decode cX3_rule 41 = .ok (.iload_n 1, 1) := by decide +kernel
theorem dX3_rule_42 : decode cX3_rule 42 = .ok (.bipush 12, 2) := by decide +kernel
theorem dX3_rule_44 : decode cX3_rule 44 = .ok (.if_icmp .ne 13, 3) := by decide +kernel
theorem dX3_rule_47 : decode cX3_rule 47 = .ok (.iload_n 2, 1) := by decide +kernel
theorem dX3_rule_48 : decode cX3_rule 48 = .ok (.iconst 0, 1) := by decide +kernel
theorem dX3_rule_49 : decode cX3_rule 49 = .ok (.bipush 7, 2) := by decide +kernel
theorem dX3_rule_51 : decode cX3_rule 51 = .ok (.invokestatic 68, 3) := by decide +kernel
theorem dX3_rule_54 : decode cX3_rule 54 = .ok (.ifCond .eq 49, 3) := by decide +kernel
theorem dX3_rule_57 : decode cX3_rule 57 = .ok (.iload_n 1, 1) := by decide +kernel
theorem dX3_rule_58 : decode cX3_rule 58 = .ok (.bipush 6, 2) := by decide +kernel
theorem dX3_rule_60 : decode cX3_rule 60 = .ok (.if_icmp .eq 9, 3) := by decide +kernel
theorem dX3_rule_63 : decode cX3_rule 63 = .ok (.iload_n 1, 1) := by decide +kernel
theorem dX3_rule_64 : decode cX3_rule 64 = .ok (.bipush 7, 2) := by decide +kernel
theorem dX3_rule_66 : decode cX3_rule 66 = .ok (.if_icmp .ne 12, 3) := by decide +kernel
theorem dX3_rule_69 : decode cX3_rule 69 = .ok (.iload_n 2, 1) := by decide +kernel
theorem dX3_rule_70 : decode cX3_rule 70 = .ok (.iconst 0, 1) := by decide +kernel
theorem dX3_rule_71 : decode cX3_rule 71 = .ok (.iconst 3, 1) := by decide +kernel
theorem dX3_rule_72 : decode cX3_rule 72 = .ok (.invokestatic 68, 3) := by decide +kernel
theorem dX3_rule_75 : decode cX3_rule 75 = .ok (.ifCond .eq 28, 3) := by decide +kernel
theorem dX3_rule_78 : decode cX3_rule 78 = .ok (.iload_n 1, 1) := by decide +kernel
theorem dX3_rule_79 : decode cX3_rule 79 = .ok (.invokestatic 118, 3) := by decide +kernel
theorem dX3_rule_82 : decode cX3_rule 82 = .ok (.ifCond .eq 17, 3) := by decide +kernel
theorem dX3_rule_85 : decode cX3_rule 85 = .ok (.iload_n 1, 1) := by decide +kernel
theorem dX3_rule_86 : decode cX3_rule 86 = .ok (.bipush 9, 2) := by decide +kernel
theorem dX3_rule_88 : decode cX3_rule 88 = .ok (.if_icmp .eq 11, 3) := by decide +kernel
theorem dX3_rule_91 : decode cX3_rule 91 = .ok (.aload_n 0, 1) := by decide +kernel
theorem dX3_rule_92 : decode cX3_rule 92 = .ok (.iload_n 3, 1) := by decide +kernel
theorem dX3_rule_93 : decode cX3_rule 93 = .ok (.invokevirtual 140, 3) := by decide +kernel
theorem dX3_rule_96 : decode cX3_rule 96 = .ok (.ifCond .eq 7, 3) := by decide +kernel
theorem dX3_rule_99 : decode cX3_rule 99 = .ok (.iconst 1, 1) := by decide +kernel
theorem dX3_rule_100 : decode cX3_rule 100 = .ok (.goto 4, 3) := by decide +kernel
theorem dX3_rule_103 : decode cX3_rule 103 = .ok (.iconst 0, 1) := by decide +kernel
theorem dX3_rule_104 : decode cX3_rule 104 = .ok (.istore 4, 2) := by decide +kernel
theorem dX3_rule_106 : decode cX3_rule 106 = .ok (.iload 4, 2) := by decide +kernel
theorem dX3_rule_108 : decode cX3_rule 108 = .ok (.ifCond .ne 5, 3) := by decide +kernel
theorem dX3_rule_111 : decode cX3_rule 111 = .ok (.iconst (-1), 1) := by decide +kernel
theorem dX3_rule_112 : decode cX3_rule 112 = .ok (.ireturn, 1) := by decide +kernel
theorem dX3_rule_113 : decode cX3_rule 113 = .ok (.aload_n 0, 1) := by decide +kernel
theorem dX3_rule_114 : decode cX3_rule 114 = .ok (.getfield 65, 3) := by decide +kernel
theorem dX3_rule_117 : decode cX3_rule 117 = .ok (.bipush 40, 2) := by decide +kernel
theorem dX3_rule_119 : decode cX3_rule 119 = .ok (.if_icmp .ne 6, 3) := by decide +kernel
theorem dX3_rule_122 : decode cX3_rule 122 = .ok (.bipush (-2), 2) := by decide +kernel
theorem dX3_rule_124 : decode cX3_rule 124 = .ok (.ireturn, 1) := by decide +kernel
theorem dX3_rule_125 : decode cX3_rule 125 = .ok (.iload_n 1, 1) := by decide +kernel
theorem dX3_rule_126 : decode cX3_rule 126 = .ok (.iconst 4, 1) := by decide +kernel
theorem dX3_rule_127 : decode cX3_rule 127 = .ok (.if_icmp .ne 12, 3) := by decide +kernel
theorem dX3_rule_130 : decode cX3_rule 130 = .ok (.aload_n 0, 1) := by decide +kernel
theorem dX3_rule_131 : decode cX3_rule 131 = .ok (.getfield 7, 3) := by decide +kernel
theorem dX3_rule_134 : decode cX3_rule 134 = .ok (.iload_n 2, 1) := by decide +kernel
theorem dX3_rule_135 : decode cX3_rule 135 = .ok (.iaload, 1) := by decide +kernel
theorem dX3_rule_136 : decode cX3_rule 136 = .ok (.goto 4, 3) := by decide +kernel
theorem dX3_rule_139 : decode cX3_rule 139 = .ok (.iconst 0, 1) := by decide +kernel
theorem dX3_rule_140 : decode cX3_rule 140 = .ok (.istore 5, 2) := by decide +kernel
theorem dX3_rule_142 : decode cX3_rule 142 = .ok (.iload_n 1, 1) := by decide +kernel
theorem dX3_rule_143 : decode cX3_rule 143 = .ok (.bipush 14, 2) := by decide +kernel
theorem dX3_rule_145 : decode cX3_rule 145 = .ok (.if_icmp .ne 36, 3) := by decide +kernel
theorem dX3_rule_148 : decode cX3_rule 148 = .ok (.aload_n 0, 1) := by decide +kernel
theorem dX3_rule_149 : decode cX3_rule 149 = .ok (.invokevirtual 143, 3) := by decide +kernel
theorem dX3_rule_152 : decode cX3_rule 152 = .ok (.aload_n 0, 1) := by decide +kernel
theorem dX3_rule_153 : decode cX3_rule 153 = .ok (.iload_n 2, 1) := by decide +kernel
theorem dX3_rule_154 : decode cX3_rule 154 = .ok (.iload_n 3, 1) := by decide +kernel
theorem dX3_rule_155 : decode cX3_rule 155 = .ok (.invokevirtual 146, 3) := by decide +kernel
theorem dX3_rule_158 : decode cX3_rule 158 = .ok (.istore 6, 2) := by decide +kernel
theorem dX3_rule_160 : decode cX3_rule 160 = .ok (.aload_n 0, 1) := by decide +kernel
theorem dX3_rule_161 : decode cX3_rule 161 = .ok (.iconst 1, 1) := by decide +kernel
theorem dX3_rule_162 : decode cX3_rule 162 = .ok (.invokevirtual 149, 3) := by decide +kernel
theorem dX3_rule_165 : decode cX3_rule 165 = .ok (.istore 7, 2) := by decide +kernel
theorem dX3_rule_167 : decode cX3_rule 167 = .ok (.iload 7, 2) := by decide +kernel
theorem dX3_rule_169 : decode cX3_rule 169 = .ok (.ifCond .ge 6, 3) := by decide +kernel
theorem dX3_rule_172 : decode cX3_rule 172 = .ok (.iload 7, 2) := by decide +kernel
theorem dX3_rule_174 : decode cX3_rule 174 = .ok (.ireturn, 1) := by decide +kernel
theorem dX3_rule_175 : decode cX3_rule 175 = .ok (.aload_n 0, 1) := by decide +kernel
theorem dX3_rule_176 : decode cX3_rule 176 = .ok (.getfield 109, 3) := by decide +kernel
theorem dX3_rule_179 : decode cX3_rule 179 = .ok (.istore 5, 2) := by decide +kernel
theorem dX3_rule_181 : decode cX3_rule 181 = .ok (.aload_n 0, 1) := by decide +kernel
theorem dX3_rule_182 : decode cX3_rule 182 = .ok (.getfield 22, 3) := by decide +kernel
theorem dX3_rule_185 : decode cX3_rule 185 = .ok (.aload_n 0, 1) := by decide +kernel
theorem dX3_rule_186 : decode cX3_rule 186 = .ok (.getfield 65, 3) := by decide +kernel
theorem dX3_rule_189 : decode cX3_rule 189 = .ok (.iload_n 1, 1) := by decide +kernel
theorem dX3_rule_190 : decode cX3_rule 190 = .ok (.iastore, 1) := by decide +kernel
theorem dX3_rule_191 : decode cX3_rule 191 = .ok (.aload_n 0, 1) := by decide +kernel
theorem dX3_rule_192 : decode cX3_rule 192 = .ok (.getfield 25, 3) := by decide +kernel
theorem dX3_rule_195 : decode cX3_rule 195 = .ok (.aload_n 0, 1) := by decide +kernel
theorem dX3_rule_196 : decode cX3_rule 196 = .ok (.getfield 65, 3) := by decide +kernel
theorem dX3_rule_199 : decode cX3_rule 199 = .ok (.iload_n 2, 1) := by decide +kernel
theorem dX3_rule_200 : decode cX3_rule 200 = .ok (.iastore, 1) := by decide +kernel
theorem dX3_rule_201 : decode cX3_rule 201 = .ok (.aload_n 0, 1) := by decide +kernel
theorem dX3_rule_202 : decode cX3_rule 202 = .ok (.getfield 28, 3) := by decide +kernel
theorem dX3_rule_205 : decode cX3_rule 205 = .ok (.aload_n 0, 1) := by decide +kernel
theorem dX3_rule_206 : decode cX3_rule 206 = .ok (.getfield 65, 3) := by decide +kernel
theorem dX3_rule_209 : decode cX3_rule 209 = .ok (.iload_n 3, 1) := by decide +kernel
theorem dX3_rule_210 : decode cX3_rule 210 = .ok (.iastore, 1) := by decide +kernel
theorem dX3_rule_211 : decode cX3_rule 211 = .ok (.aload_n 0, 1) := by decide +kernel
theorem dX3_rule_212 : decode cX3_rule 212 = .ok (.getfield 31, 3) := by decide +kernel
theorem dX3_rule_215 : decode cX3_rule 215 = .ok (.aload_n 0, 1) := by decide +kernel
theorem dX3_rule_216 : decode cX3_rule 216 = .ok (.getfield 65, 3) := by decide +kernel
theorem dX3_rule_219 : decode cX3_rule 219 = .ok (.iload 5, 2) := by decide +kernel
theorem dX3_rule_221 : decode cX3_rule 221 = .ok (.iastore, 1) := by decide +kernel
theorem dX3_rule_222 : decode cX3_rule 222 = .ok (.aload_n 0, 1) := by decide +kernel
theorem dX3_rule_223 : decode cX3_rule 223 = .ok (.getfield 34, 3) := by decide +kernel
theorem dX3_rule_226 : decode cX3_rule 226 = .ok (.aload_n 0, 1) := by decide +kernel
theorem dX3_rule_227 : decode cX3_rule 227 = .ok (.getfield 65, 3) := by decide +kernel
theorem dX3_rule_230 : decode cX3_rule 230 = .ok (.iload_n 1, 1) := by decide +kernel
theorem dX3_rule_231 : decode cX3_rule 231 = .ok (.bipush 6, 2) := by decide +kernel
theorem dX3_rule_233 : decode cX3_rule 233 = .ok (.if_icmp .ne 12, 3) := by decide +kernel
theorem dX3_rule_236 : decode cX3_rule 236 = .ok (.aload_n 0, 1) := by decide +kernel
theorem dX3_rule_237 : decode cX3_rule 237 = .ok (.getfield 13, 3) := by decide +kernel
theorem dX3_rule_240 : decode cX3_rule 240 = .ok (.iload_n 2, 1) := by decide +kernel
theorem dX3_rule_241 : decode cX3_rule 241 = .ok (.iaload, 1) := by decide +kernel
theorem dX3_rule_242 : decode cX3_rule 242 = .ok (.goto 4, 3) := by decide +kernel
theorem dX3_rule_245 : decode cX3_rule 245 = .ok (.iconst (-1), 1) := by decide +kernel
theorem dX3_rule_246 : decode cX3_rule 246 = .ok (.iastore, 1) := by decide +kernel
theorem dX3_rule_247 : decode cX3_rule 247 = .ok (.aload_n 0, 1) := by decide +kernel
theorem dX3_rule_248 : decode cX3_rule 248 = .ok (.getfield 37, 3) := by decide +kernel
theorem dX3_rule_251 : decode cX3_rule 251 = .ok (.aload_n 0, 1) := by decide +kernel
theorem dX3_rule_252 : decode cX3_rule 252 = .ok (.getfield 65, 3) := by decide +kernel
theorem dX3_rule_255 : decode cX3_rule 255 = .ok (.iconst 0, 1) := by decide +kernel
theorem dX3_rule_256 : decode cX3_rule 256 = .ok (.iastore, 1) := by decide +kernel
theorem dX3_rule_257 : decode cX3_rule 257 = .ok (.aload_n 0, 1) := by decide +kernel
theorem dX3_rule_258 : decode cX3_rule 258 = .ok (.dup, 1) := by decide +kernel
theorem dX3_rule_259 : decode cX3_rule 259 = .ok (.getfield 65, 3) := by decide +kernel
theorem dX3_rule_262 : decode cX3_rule 262 = .ok (.iconst 1, 1) := by decide +kernel
theorem dX3_rule_263 : decode cX3_rule 263 = .ok (.iadd, 1) := by decide +kernel
theorem dX3_rule_264 : decode cX3_rule 264 = .ok (.putfield 65, 3) := by decide +kernel
theorem dX3_rule_267 : decode cX3_rule 267 = .ok (.aload_n 0, 1) := by decide +kernel
theorem dX3_rule_268 : decode cX3_rule 268 = .ok (.getfield 65, 3) := by decide +kernel
theorem dX3_rule_271 : decode cX3_rule 271 = .ok (.iconst 1, 1) := by decide +kernel
theorem dX3_rule_272 : decode cX3_rule 272 = .ok (.isub, 1) := by decide +kernel
theorem dX3_rule_273 : decode cX3_rule 273 = .ok (.ireturn, 1) := by decide +kernel
set_option maxRecDepth 20000 in
theorem ggX3_apply_X3_isRule : GoodIn wsX3_apply wsX3_isRule := goodIn_r _ [7, 8, 9, 10, 6, 11, 79, 80, 81, 82, 83, 84, 85, 86, 87, 88, 89, 90, 91, 92, 93, 94, 95, 96, 97, 98, 99, 100, 101, 102, 103, 104, 105, 106, 107, 108] (by decide +kernel) (by decide +kernel)
set_option maxRecDepth 20000 in
theorem gX3_apply_X3_isRule : GoodIn wsX3_apply (wsV RX3 140 RX3 yX3_isRule wsX3_isRule) := goodIn_app (goodIn_of _ (by decide +kernel)) ggX3_apply_X3_isRule
set_option maxRecDepth 20000 in
theorem ggX3_apply_X3_startsCall : GoodIn wsX3_apply wsX3_startsCall := goodIn_r _ [15, 16, 17, 79, 80, 81, 82, 83, 84, 85, 86, 87, 88, 89, 90, 91, 92, 93, 94, 95, 96, 97, 98, 99, 100, 101, 102, 103, 104, 105, 106, 107, 108] (by decide +kernel) (by decide +kernel)
set_option maxRecDepth 20000 in
theorem gX3_apply_X3_startsCall : GoodIn wsX3_apply (wsV RX3 143 RX3 yX3_startsCall wsX3_startsCall) := goodIn_app (goodIn_of _ (by decide +kernel)) ggX3_apply_X3_startsCall
set_option maxRecDepth 20000 in
theorem ggX3_apply_X3_gives : GoodIn wsX3_apply wsX3_gives := goodIn_r _ [21, 22, 17, 23, 24, 1, 25, 26, 27, 28, 6, 29, 16, 30, 31, 32, 33, 34, 35, 36, 37, 38, 39, 40, 41, 42, 43, 44, 45, 9, 10, 11, 46, 47, 48, 49, 50, 51, 52, 53, 54, 55, 56, 57, 58, 59, 60, 61, 62, 63, 64, 65, 66, 79, 80, 81, 82, 83, 84, 85, 86, 87, 88, 89, 90, 91, 92, 93, 94, 95, 96, 97, 98, 99, 100, 101, 102, 103, 104, 105, 106, 107, 108] (by decide +kernel) (by decide +kernel)
set_option maxRecDepth 20000 in
theorem gX3_apply_X3_gives : GoodIn wsX3_apply (wsV RX3 146 RX3 yX3_gives wsX3_gives) := goodIn_app (goodIn_of _ (by decide +kernel)) ggX3_apply_X3_gives
set_option maxRecDepth 20000 in
theorem ggX3_apply_X3_ends : GoodIn wsX3_apply wsX3_ends := goodIn_r _ [70, 16, 71, 17, 36, 72, 73, 74, 6, 75, 76, 77, 78, 79, 80, 81, 82, 83, 84, 85, 86, 87, 88, 89, 90, 91, 92, 93, 94, 95, 96, 97, 98, 99, 100, 101, 102, 103, 104, 105, 106, 107, 108] (by decide +kernel) (by decide +kernel)
set_option maxRecDepth 20000 in
theorem gX3_apply_X3_ends : GoodIn wsX3_apply (wsV RX3 149 RX3 yX3_ends wsX3_ends) := goodIn_app (goodIn_of _ (by decide +kernel)) ggX3_apply_X3_ends
theorem dX3_apply_0 : decode cX3_apply 0 = .ok (.aload_n 0, 1) := by decide +kernel
theorem dX3_apply_1 : decode cX3_apply 1 = .ok (.iload_n 1, 1) := by decide +kernel
theorem dX3_apply_2 : decode cX3_apply 2 = .ok (.invokevirtual 140, 3) := by decide +kernel
theorem dX3_apply_5 : decode cX3_apply 5 = .ok (.ifCond .ne 5, 3) := by decide +kernel
theorem dX3_apply_8 : decode cX3_apply 8 = .ok (.iconst (-1), 1) := by decide +kernel
theorem dX3_apply_9 : decode cX3_apply 9 = .ok (.ireturn, 1) := by decide +kernel
theorem dX3_apply_10 : decode cX3_apply 10 = .ok (.aload_n 0, 1) := by decide +kernel
theorem dX3_apply_11 : decode cX3_apply 11 = .ok (.invokevirtual 143, 3) := by decide +kernel
theorem dX3_apply_14 : decode cX3_apply 14 = .ok (.aload_n 0, 1) := by decide +kernel
theorem dX3_apply_15 : decode cX3_apply 15 = .ok (.iload_n 1, 1) := by decide +kernel
theorem dX3_apply_16 : decode cX3_apply 16 = .ok (.iload_n 2, 1) := by decide +kernel
theorem dX3_apply_17 : decode cX3_apply 17 = .ok (.invokevirtual 146, 3) := by decide +kernel
theorem dX3_apply_20 : decode cX3_apply 20 = .ok (.istore_n 3, 1) := by decide +kernel
theorem dX3_apply_21 : decode cX3_apply 21 = .ok (.aload_n 0, 1) := by decide +kernel
theorem dX3_apply_22 : decode cX3_apply 22 = .ok (.iload_n 3, 1) := by decide +kernel
theorem dX3_apply_23 : decode cX3_apply 23 = .ok (.ifCond .eq 10, 3) := by decide +kernel
theorem dX3_apply_26 : decode cX3_apply 26 = .ok (.aload_n 0, 1) := by decide +kernel
theorem dX3_apply_27 : decode cX3_apply 27 = .ok (.getfield 109, 3) := by decide +kernel
theorem dX3_apply_30 : decode cX3_apply 30 = .ok (.goto 7, 3) := by decide +kernel
theorem dX3_apply_33 : decode cX3_apply 33 = .ok (.aload_n 0, 1) := by decide +kernel
theorem dX3_apply_34 : decode cX3_apply 34 = .ok (.getfield 152, 3) := by decide +kernel
theorem dX3_apply_37 : decode cX3_apply 37 = .ok (.putfield 152, 3) := by decide +kernel
theorem dX3_apply_40 : decode cX3_apply 40 = .ok (.aload_n 0, 1) := by decide +kernel
theorem dX3_apply_41 : decode cX3_apply 41 = .ok (.iconst 1, 1) := by decide +kernel
theorem dX3_apply_42 : decode cX3_apply 42 = .ok (.invokevirtual 149, 3) := by decide +kernel
theorem dX3_apply_45 : decode cX3_apply 45 = .ok (.ireturn, 1) := by decide +kernel
set_option maxRecDepth 20000 in
theorem ggX3_each_X3_isRule : GoodIn wsX3_each wsX3_isRule := goodIn_r _ [9, 10, 11, 12, 8, 13, 78, 79, 80, 81, 82, 83, 84, 85, 86, 87, 88, 89, 90, 91, 92, 93, 94, 95, 96, 97, 98, 99, 100, 101, 102, 103, 104, 105, 106, 107] (by decide +kernel) (by decide +kernel)
set_option maxRecDepth 20000 in
theorem gX3_each_X3_isRule : GoodIn wsX3_each (wsV RX3 140 RX3 yX3_isRule wsX3_isRule) := goodIn_app (goodIn_of _ (by decide +kernel)) ggX3_each_X3_isRule
set_option maxRecDepth 20000 in
theorem ggX3_each_X3_in : GoodIn wsX3_each wsX3_in := goodIn_r _ [13] (by decide +kernel) (by decide +kernel)
set_option maxRecDepth 20000 in
theorem gX3_each_X3_in : GoodIn wsX3_each (va_wsS RX3 68 yX3_in wsX3_in) := goodIn_app (goodIn_of _ (by decide +kernel)) ggX3_each_X3_in
set_option maxRecDepth 20000 in
theorem ggX3_each_X3_startsCall : GoodIn wsX3_each wsX3_startsCall := goodIn_r _ [17, 18, 19, 78, 79, 80, 81, 82, 83, 84, 85, 86, 87, 88, 89, 90, 91, 92, 93, 94, 95, 96, 97, 98, 99, 100, 101, 102, 103, 104, 105, 106, 107] (by decide +kernel) (by decide +kernel)
set_option maxRecDepth 20000 in
theorem gX3_each_X3_startsCall : GoodIn wsX3_each (wsV RX3 143 RX3 yX3_startsCall wsX3_startsCall) := goodIn_app (goodIn_of _ (by decide +kernel)) ggX3_each_X3_startsCall
set_option maxRecDepth 20000 in
theorem ggX3_each_X3_gives : GoodIn wsX3_each wsX3_gives := goodIn_r _ [23, 24, 19, 25, 26, 4, 27, 28, 29, 30, 8, 31, 18, 32, 33, 34, 35, 36, 37, 38, 39, 40, 41, 42, 43, 44, 45, 46, 47, 11, 12, 13, 48, 49, 50, 51, 52, 53, 54, 55, 56, 57, 58, 59, 60, 1, 61, 62, 63, 64, 65, 2, 3, 78, 79, 80, 81, 82, 83, 84, 85, 86, 87, 88, 89, 90, 91, 92, 93, 94, 95, 96, 97, 98, 99, 100, 101, 102, 103, 104, 105, 106, 107] (by decide +kernel) (by decide +kernel)
set_option maxRecDepth 20000 in
theorem gX3_each_X3_gives : GoodIn wsX3_each (wsV RX3 146 RX3 yX3_gives wsX3_gives) := goodIn_app (goodIn_of _ (by decide +kernel)) ggX3_each_X3_gives
set_option maxRecDepth 20000 in
theorem ggX3_each_X3_ends : GoodIn wsX3_each wsX3_ends := goodIn_r _ [69, 18, 70, 19, 38, 71, 72, 73, 8, 74, 75, 76, 77, 78, 79, 80, 81, 82, 83, 84, 85, 86, 87, 88, 89, 90, 91, 92, 93, 94, 95, 96, 97, 98, 99, 100, 101, 102, 103, 104, 105, 106, 107] (by decide +kernel) (by decide +kernel)
set_option maxRecDepth 20000 in
theorem gX3_each_X3_ends : GoodIn wsX3_each (wsV RX3 149 RX3 yX3_ends wsX3_ends) := goodIn_app (goodIn_of _ (by decide +kernel)) ggX3_each_X3_ends
theorem dX3_each_0 : decode cX3_each 0 = .ok (.aload_n 0, 1) := by decide +kernel
theorem dX3_each_1 : decode cX3_each 1 = .ok (.iload_n 1, 1) := by decide +kernel
theorem dX3_each_2 : decode cX3_each 2 = .ok (.invokevirtual 140, 3) := by decide +kernel
theorem dX3_each_5 : decode cX3_each 5 = .ok (.ifCond .eq 12, 3) := by decide +kernel
theorem dX3_each_8 : decode cX3_each 8 = .ok (.iload_n 2, 1) := by decide +kernel
theorem dX3_each_9 : decode cX3_each 9 = .ok (.iconst 0, 1) := by decide +kernel
theorem dX3_each_10 : decode cX3_each 10 = .ok (.iconst 3, 1) := by decide +kernel
theorem dX3_each_11 : decode cX3_each 11 = .ok (.invokestatic 68, 3) := by decide +kernel
theorem dX3_each_14 : decode cX3_each 14 = .ok (.ifCond .ne 5, 3) := by decide +kernel
theorem dX3_each_17 : decode cX3_each 17 = .ok (.iconst (-1), 1) := by decide +kernel
theorem dX3_each_18 : decode cX3_each 18 = .ok (.ireturn, 1) := by decide +kernel
theorem dX3_each_19 : decode cX3_each 19 = .ok (.aload_n 0, 1) := by decide +kernel
theorem dX3_each_20 : decode cX3_each 20 = .ok (.getfield 13, 3) := by decide +kernel
theorem dX3_each_23 : decode cX3_each 23 = .ok (.iload_n 2, 1) := by decide +kernel
theorem dX3_each_24 : decode cX3_each 24 = .ok (.iaload, 1) := by decide +kernel
theorem dX3_each_25 : decode cX3_each 25 = .ok (.ifCond .ge 6, 3) := by decide +kernel
theorem dX3_each_28 : decode cX3_each 28 = .ok (.bipush (-13), 2) := by decide +kernel
theorem dX3_each_30 : decode cX3_each 30 = .ok (.ireturn, 1) := by decide +kernel
theorem dX3_each_31 : decode cX3_each 31 = .ok (.aload_n 0, 1) := by decide +kernel
theorem dX3_each_32 : decode cX3_each 32 = .ok (.getfield 13, 3) := by decide +kernel
theorem dX3_each_35 : decode cX3_each 35 = .ok (.iload_n 2, 1) := by decide +kernel
theorem dX3_each_36 : decode cX3_each 36 = .ok (.iaload, 1) := by decide +kernel
theorem dX3_each_37 : decode cX3_each 37 = .ok (.istore_n 3, 1) := by decide +kernel
theorem dX3_each_38 : decode cX3_each 38 = .ok (.aload_n 0, 1) := by decide +kernel
theorem dX3_each_39 : decode cX3_each 39 = .ok (.invokevirtual 143, 3) := by decide +kernel
theorem dX3_each_42 : decode cX3_each 42 = .ok (.iconst 0, 1) := by decide +kernel
theorem dX3_each_43 : decode cX3_each 43 = .ok (.istore 4, 2) := by decide +kernel
theorem dX3_each_45 : decode cX3_each 45 = .ok (.iload 4, 2) := by decide +kernel
theorem dX3_each_47 : decode cX3_each 47 = .ok (.aload_n 0, 1) := by decide +kernel
theorem dX3_each_48 : decode cX3_each 48 = .ok (.getfield 16, 3) := by decide +kernel
theorem dX3_each_51 : decode cX3_each 51 = .ok (.iload_n 3, 1) := by decide +kernel
theorem dX3_each_52 : decode cX3_each 52 = .ok (.iaload, 1) := by decide +kernel
theorem dX3_each_53 : decode cX3_each 53 = .ok (.if_icmp .ge 45, 3) := by decide +kernel
theorem dX3_each_56 : decode cX3_each 56 = .ok (.aload_n 0, 1) := by decide +kernel
theorem dX3_each_57 : decode cX3_each 57 = .ok (.iload_n 1, 1) := by decide +kernel
theorem dX3_each_58 : decode cX3_each 58 = .ok (.aload_n 0, 1) := by decide +kernel
theorem dX3_each_59 : decode cX3_each 59 = .ok (.getfield 19, 3) := by decide +kernel
theorem dX3_each_62 : decode cX3_each 62 = .ok (.bipush 10, 2) := by decide +kernel
theorem dX3_each_64 : decode cX3_each 64 = .ok (.iload_n 3, 1) := by decide +kernel
theorem dX3_each_65 : decode cX3_each 65 = .ok (.imul, 1) := by decide +kernel
theorem dX3_each_66 : decode cX3_each 66 = .ok (.iload 4, 2) := by decide +kernel
theorem dX3_each_68 : decode cX3_each 68 = .ok (.iadd, 1) := by decide +kernel
theorem dX3_each_69 : decode cX3_each 69 = .ok (.iaload, 1) := by decide +kernel
theorem dX3_each_70 : decode cX3_each 70 = .ok (.invokevirtual 146, 3) := by decide +kernel
theorem dX3_each_73 : decode cX3_each 73 = .ok (.ifCond .eq 25, 3) := by decide +kernel
theorem dX3_each_76 : decode cX3_each 76 = .ok (.aload_n 0, 1) := by decide +kernel
theorem dX3_each_77 : decode cX3_each 77 = .ok (.getfield 19, 3) := by decide +kernel
theorem dX3_each_80 : decode cX3_each 80 = .ok (.bipush 10, 2) := by decide +kernel
theorem dX3_each_82 : decode cX3_each 82 = .ok (.iload_n 3, 1) := by decide +kernel
theorem dX3_each_83 : decode cX3_each 83 = .ok (.imul, 1) := by decide +kernel
theorem dX3_each_84 : decode cX3_each 84 = .ok (.iload 4, 2) := by decide +kernel
theorem dX3_each_86 : decode cX3_each 86 = .ok (.iadd, 1) := by decide +kernel
theorem dX3_each_87 : decode cX3_each 87 = .ok (.aload_n 0, 1) := by decide +kernel
theorem dX3_each_88 : decode cX3_each 88 = .ok (.getfield 109, 3) := by decide +kernel
theorem dX3_each_91 : decode cX3_each 91 = .ok (.iastore, 1) := by decide +kernel
theorem dX3_each_92 : decode cX3_each 92 = .ok (.iinc 4 1, 3) := by decide +kernel
theorem dX3_each_95 : decode cX3_each 95 = .ok (.goto (-50), 3) := by decide +kernel
theorem dX3_each_98 : decode cX3_each 98 = .ok (.aload_n 0, 1) := by decide +kernel
theorem dX3_each_99 : decode cX3_each 99 = .ok (.iload 4, 2) := by decide +kernel
theorem dX3_each_101 : decode cX3_each 101 = .ok (.invokevirtual 149, 3) := by decide +kernel
theorem dX3_each_104 : decode cX3_each 104 = .ok (.ireturn, 1) := by decide +kernel
set_option maxRecDepth 20000 in
theorem ggX3_asksEach_X3_startsCall : GoodIn wsX3_asksEach wsX3_startsCall := goodIn_r _ [9, 10, 11, 62, 63, 64, 65, 66, 67, 68, 69, 70, 71, 72, 73, 74, 75, 76, 77, 78, 79, 80, 81, 82, 83, 84, 85, 86, 87, 88, 89, 90, 91] (by decide +kernel) (by decide +kernel)
set_option maxRecDepth 20000 in
theorem gX3_asksEach_X3_startsCall : GoodIn wsX3_asksEach (wsV RX3 143 RX3 yX3_startsCall wsX3_startsCall) := goodIn_app (goodIn_of _ (by decide +kernel)) ggX3_asksEach_X3_startsCall
set_option maxRecDepth 20000 in
theorem ggX3_asksEach_X3_gives : GoodIn wsX3_asksEach wsX3_gives := goodIn_r _ [15, 16, 11, 17, 18, 4, 19, 20, 21, 22, 8, 23, 10, 24, 25, 26, 27, 28, 29, 30, 31, 32, 33, 34, 35, 36, 37, 38, 39, 40, 41, 42, 43, 44, 45, 46, 47, 48, 49, 50, 51, 52, 53, 54, 55, 56, 57, 58, 59, 60, 61, 1, 2, 62, 63, 64, 65, 66, 67, 68, 69, 70, 71, 72, 73, 74, 75, 76, 77, 78, 79, 80, 81, 82, 83, 84, 85, 86, 87, 88, 89, 90, 91] (by decide +kernel) (by decide +kernel)
set_option maxRecDepth 20000 in
theorem gX3_asksEach_X3_gives : GoodIn wsX3_asksEach (wsV RX3 146 RX3 yX3_gives wsX3_gives) := goodIn_app (goodIn_of _ (by decide +kernel)) ggX3_asksEach_X3_gives
theorem dX3_asksEach_0 : decode cX3_asksEach 0 = .ok (.aload_n 0, 1) := by decide +kernel
theorem dX3_asksEach_1 : decode cX3_asksEach 1 = .ok (.invokevirtual 143, 3) := by decide +kernel
theorem dX3_asksEach_4 : decode cX3_asksEach 4 = .ok (.iconst 0, 1) := by decide +kernel
theorem dX3_asksEach_5 : decode cX3_asksEach 5 = .ok (.istore_n 3, 1) := by decide +kernel
theorem dX3_asksEach_6 : decode cX3_asksEach 6 = .ok (.iload_n 3, 1) := by decide +kernel
theorem dX3_asksEach_7 : decode cX3_asksEach 7 = .ok (.aload_n 0, 1) := by decide +kernel
theorem dX3_asksEach_8 : decode cX3_asksEach 8 = .ok (.getfield 16, 3) := by decide +kernel
theorem dX3_asksEach_11 : decode cX3_asksEach 11 = .ok (.iload_n 2, 1) := by decide +kernel
theorem dX3_asksEach_12 : decode cX3_asksEach 12 = .ok (.iaload, 1) := by decide +kernel
theorem dX3_asksEach_13 : decode cX3_asksEach 13 = .ok (.if_icmp .ge 40, 3) := by decide +kernel
theorem dX3_asksEach_16 : decode cX3_asksEach 16 = .ok (.aload_n 0, 1) := by decide +kernel
theorem dX3_asksEach_17 : decode cX3_asksEach 17 = .ok (.iload_n 1, 1) := by decide +kernel
theorem dX3_asksEach_18 : decode cX3_asksEach 18 = .ok (.aload_n 0, 1) := by decide +kernel
theorem dX3_asksEach_19 : decode cX3_asksEach 19 = .ok (.getfield 19, 3) := by decide +kernel
theorem dX3_asksEach_22 : decode cX3_asksEach 22 = .ok (.bipush 10, 2) := by decide +kernel
theorem dX3_asksEach_24 : decode cX3_asksEach 24 = .ok (.iload_n 2, 1) := by decide +kernel
theorem dX3_asksEach_25 : decode cX3_asksEach 25 = .ok (.imul, 1) := by decide +kernel
theorem dX3_asksEach_26 : decode cX3_asksEach 26 = .ok (.iload_n 3, 1) := by decide +kernel
theorem dX3_asksEach_27 : decode cX3_asksEach 27 = .ok (.iadd, 1) := by decide +kernel
theorem dX3_asksEach_28 : decode cX3_asksEach 28 = .ok (.iaload, 1) := by decide +kernel
theorem dX3_asksEach_29 : decode cX3_asksEach 29 = .ok (.invokevirtual 146, 3) := by decide +kernel
theorem dX3_asksEach_32 : decode cX3_asksEach 32 = .ok (.ifCond .ne 5, 3) := by decide +kernel
theorem dX3_asksEach_35 : decode cX3_asksEach 35 = .ok (.iconst 0, 1) := by decide +kernel
theorem dX3_asksEach_36 : decode cX3_asksEach 36 = .ok (.ireturn, 1) := by decide +kernel
theorem dX3_asksEach_37 : decode cX3_asksEach 37 = .ok (.aload_n 0, 1) := by decide +kernel
theorem dX3_asksEach_38 : decode cX3_asksEach 38 = .ok (.getfield 56, 3) := by decide +kernel
theorem dX3_asksEach_41 : decode cX3_asksEach 41 = .ok (.iload_n 3, 1) := by decide +kernel
theorem dX3_asksEach_42 : decode cX3_asksEach 42 = .ok (.aload_n 0, 1) := by decide +kernel
theorem dX3_asksEach_43 : decode cX3_asksEach 43 = .ok (.getfield 109, 3) := by decide +kernel
theorem dX3_asksEach_46 : decode cX3_asksEach 46 = .ok (.iastore, 1) := by decide +kernel
theorem dX3_asksEach_47 : decode cX3_asksEach 47 = .ok (.iinc 3 1, 3) := by decide +kernel
theorem dX3_asksEach_50 : decode cX3_asksEach 50 = .ok (.goto (-44), 3) := by decide +kernel
theorem dX3_asksEach_53 : decode cX3_asksEach 53 = .ok (.iconst 1, 1) := by decide +kernel
theorem dX3_asksEach_54 : decode cX3_asksEach 54 = .ok (.ireturn, 1) := by decide +kernel
set_option maxRecDepth 20000 in
theorem ggX3_keep_X3_isRule : GoodIn wsX3_keep wsX3_isRule := goodIn_r _ [10, 11, 12, 13, 9, 14, 92, 93, 94, 95, 96, 97, 98, 99, 100, 101, 102, 103, 104, 105, 106, 107, 108, 109, 110, 111, 112, 113, 114, 115, 116, 117, 118, 119, 120, 121] (by decide +kernel) (by decide +kernel)
set_option maxRecDepth 20000 in
theorem gX3_keep_X3_isRule : GoodIn wsX3_keep (wsV RX3 140 RX3 yX3_isRule wsX3_isRule) := goodIn_app (goodIn_of _ (by decide +kernel)) ggX3_keep_X3_isRule
set_option maxRecDepth 20000 in
theorem ggX3_keep_X3_in : GoodIn wsX3_keep wsX3_in := goodIn_r _ [14] (by decide +kernel) (by decide +kernel)
set_option maxRecDepth 20000 in
theorem gX3_keep_X3_in : GoodIn wsX3_keep (va_wsS RX3 68 yX3_in wsX3_in) := goodIn_app (goodIn_of _ (by decide +kernel)) ggX3_keep_X3_in
set_option maxRecDepth 20000 in
theorem ggX3_keep_X3_asksEach : GoodIn wsX3_keep wsX3_asksEach := goodIn_r _ [18, 2, 5, 3, 19, 20, 21, 22, 9, 23, 24, 25, 26, 27, 28, 29, 30, 31, 32, 33, 34, 35, 36, 37, 38, 39, 40, 41, 42, 43, 44, 45, 46, 47, 48, 49, 50, 51, 52, 53, 12, 13, 14, 54, 55, 56, 57, 58, 59, 60, 61, 62, 63, 64, 65, 66, 1, 67, 68, 69, 70, 71, 92, 93, 94, 95, 96, 97, 98, 99, 100, 101, 102, 103, 104, 105, 106, 107, 108, 109, 110, 111, 112, 113, 114, 115, 116, 117, 118, 119, 120, 121] (by decide +kernel) (by decide +kernel)
set_option maxRecDepth 20000 in
theorem gX3_keep_X3_asksEach : GoodIn wsX3_keep (wsV RX3 155 RX3 yX3_asksEach wsX3_asksEach) := goodIn_app (goodIn_of _ (by decide +kernel)) ggX3_keep_X3_asksEach
set_option maxRecDepth 20000 in
theorem ggX3_keep_X3_newRow : GoodIn wsX3_keep wsX3_newRow := goodIn_r _ [75, 2, 5, 76, 77, 78, 9, 79, 1, 11, 32, 66, 92, 93, 94, 95, 96, 97, 98, 99, 100, 101, 102, 103, 104, 105, 106, 107, 108, 109, 110, 111, 112, 113, 114, 115, 116, 117, 118, 119, 120, 121] (by decide +kernel) (by decide +kernel)
set_option maxRecDepth 20000 in
theorem gX3_keep_X3_newRow : GoodIn wsX3_keep (wsV RX3 78 RX3 yX3_newRow wsX3_newRow) := goodIn_app (goodIn_of _ (by decide +kernel)) ggX3_keep_X3_newRow
set_option maxRecDepth 20000 in
theorem ggX3_keep_X3_ends : GoodIn wsX3_keep wsX3_ends := goodIn_r _ [83, 24, 84, 25, 44, 85, 86, 87, 9, 88, 89, 90, 91, 92, 93, 94, 95, 96, 97, 98, 99, 100, 101, 102, 103, 104, 105, 106, 107, 108, 109, 110, 111, 112, 113, 114, 115, 116, 117, 118, 119, 120, 121] (by decide +kernel) (by decide +kernel)
set_option maxRecDepth 20000 in
theorem gX3_keep_X3_ends : GoodIn wsX3_keep (wsV RX3 149 RX3 yX3_ends wsX3_ends) := goodIn_app (goodIn_of _ (by decide +kernel)) ggX3_keep_X3_ends
theorem dX3_keep_0 : decode cX3_keep 0 = .ok (.aload_n 0, 1) := by decide +kernel
theorem dX3_keep_1 : decode cX3_keep 1 = .ok (.iload_n 1, 1) := by decide +kernel
theorem dX3_keep_2 : decode cX3_keep 2 = .ok (.invokevirtual 140, 3) := by decide +kernel
theorem dX3_keep_5 : decode cX3_keep 5 = .ok (.ifCond .eq 12, 3) := by decide +kernel
theorem dX3_keep_8 : decode cX3_keep 8 = .ok (.iload_n 2, 1) := by decide +kernel
theorem dX3_keep_9 : decode cX3_keep 9 = .ok (.iconst 0, 1) := by decide +kernel
theorem dX3_keep_10 : decode cX3_keep 10 = .ok (.iconst 3, 1) := by decide +kernel
theorem dX3_keep_11 : decode cX3_keep 11 = .ok (.invokestatic 68, 3) := by decide +kernel
theorem dX3_keep_14 : decode cX3_keep 14 = .ok (.ifCond .ne 5, 3) := by decide +kernel
theorem dX3_keep_17 : decode cX3_keep 17 = .ok (.iconst (-1), 1) := by decide +kernel
theorem dX3_keep_18 : decode cX3_keep 18 = .ok (.ireturn, 1) := by decide +kernel
theorem dX3_keep_19 : decode cX3_keep 19 = .ok (.aload_n 0, 1) := by decide +kernel
theorem dX3_keep_20 : decode cX3_keep 20 = .ok (.getfield 13, 3) := by decide +kernel
theorem dX3_keep_23 : decode cX3_keep 23 = .ok (.iload_n 2, 1) := by decide +kernel
theorem dX3_keep_24 : decode cX3_keep 24 = .ok (.iaload, 1) := by decide +kernel
theorem dX3_keep_25 : decode cX3_keep 25 = .ok (.ifCond .ge 6, 3) := by decide +kernel
theorem dX3_keep_28 : decode cX3_keep 28 = .ok (.bipush (-13), 2) := by decide +kernel
theorem dX3_keep_30 : decode cX3_keep 30 = .ok (.ireturn, 1) := by decide +kernel
theorem dX3_keep_31 : decode cX3_keep 31 = .ok (.aload_n 0, 1) := by decide +kernel
theorem dX3_keep_32 : decode cX3_keep 32 = .ok (.getfield 13, 3) := by decide +kernel
theorem dX3_keep_35 : decode cX3_keep 35 = .ok (.iload_n 2, 1) := by decide +kernel
theorem dX3_keep_36 : decode cX3_keep 36 = .ok (.iaload, 1) := by decide +kernel
theorem dX3_keep_37 : decode cX3_keep 37 = .ok (.istore_n 3, 1) := by decide +kernel
theorem dX3_keep_38 : decode cX3_keep 38 = .ok (.iconst 0, 1) := by decide +kernel
theorem dX3_keep_39 : decode cX3_keep 39 = .ok (.istore 4, 2) := by decide +kernel
theorem dX3_keep_41 : decode cX3_keep 41 = .ok (.aload_n 0, 1) := by decide +kernel
theorem dX3_keep_42 : decode cX3_keep 42 = .ok (.iload_n 1, 1) := by decide +kernel
theorem dX3_keep_43 : decode cX3_keep 43 = .ok (.iload_n 3, 1) := by decide +kernel
theorem dX3_keep_44 : decode cX3_keep 44 = .ok (.invokevirtual 155, 3) := by decide +kernel
theorem dX3_keep_47 : decode cX3_keep 47 = .ok (.ifCond .eq 107, 3) := by decide +kernel
theorem dX3_keep_50 : decode cX3_keep 50 = .ok (.iconst 0, 1) := by decide +kernel
theorem dX3_keep_51 : decode cX3_keep 51 = .ok (.istore 5, 2) := by decide +kernel
theorem dX3_keep_53 : decode cX3_keep 53 = .ok (.iload 5, 2) := by decide +kernel
theorem dX3_keep_55 : decode cX3_keep 55 = .ok (.aload_n 0, 1) := by decide +kernel
theorem dX3_keep_56 : decode cX3_keep 56 = .ok (.getfield 16, 3) := by decide +kernel
theorem dX3_keep_59 : decode cX3_keep 59 = .ok (.iload_n 3, 1) := by decide +kernel
theorem dX3_keep_60 : decode cX3_keep 60 = .ok (.iaload, 1) := by decide +kernel
theorem dX3_keep_61 : decode cX3_keep 61 = .ok (.if_icmp .ge 41, 3) := by decide +kernel
theorem dX3_keep_64 : decode cX3_keep 64 = .ok (.aload_n 0, 1) := by decide +kernel
theorem dX3_keep_65 : decode cX3_keep 65 = .ok (.getfield 56, 3) := by decide +kernel
theorem dX3_keep_68 : decode cX3_keep 68 = .ok (.iload 5, 2) := by decide +kernel
theorem dX3_keep_70 : decode cX3_keep 70 = .ok (.iaload, 1) := by decide +kernel
theorem dX3_keep_71 : decode cX3_keep 71 = .ok (.ifCond .eq 25, 3) := by decide +kernel
theorem dX3_keep_74 : decode cX3_keep 74 = .ok (.aload_n 0, 1) := by decide +kernel
theorem dX3_keep_75 : decode cX3_keep 75 = .ok (.getfield 59, 3) := by decide +kernel
theorem dX3_keep_78 : decode cX3_keep 78 = .ok (.iload 4, 2) := by decide +kernel
theorem dX3_keep_80 : decode cX3_keep 80 = .ok (.aload_n 0, 1) := by decide +kernel
theorem dX3_keep_81 : decode cX3_keep 81 = .ok (.getfield 19, 3) := by decide +kernel
theorem dX3_keep_84 : decode cX3_keep 84 = .ok (.bipush 10, 2) := by decide +kernel
theorem dX3_keep_86 : decode cX3_keep 86 = .ok (.iload_n 3, 1) := by decide +kernel
theorem dX3_keep_87 : decode cX3_keep 87 = .ok (.imul, 1) := by decide +kernel
theorem dX3_keep_88 : decode cX3_keep 88 = .ok (.iload 5, 2) := by decide +kernel
theorem dX3_keep_90 : decode cX3_keep 90 = .ok (.iadd, 1) := by decide +kernel
theorem dX3_keep_91 : decode cX3_keep 91 = .ok (.iaload, 1) := by decide +kernel
theorem dX3_keep_92 : decode cX3_keep 92 = .ok (.iastore, 1) := by decide +kernel
theorem dX3_keep_93 : decode cX3_keep 93 = .ok (.iinc 4 1, 3) := by decide +kernel
theorem dX3_keep_96 : decode cX3_keep 96 = .ok (.iinc 5 1, 3) := by decide +kernel
theorem dX3_keep_99 : decode cX3_keep 99 = .ok (.goto (-46), 3) := by decide +kernel
theorem dX3_keep_102 : decode cX3_keep 102 = .ok (.aload_n 0, 1) := by decide +kernel
theorem dX3_keep_103 : decode cX3_keep 103 = .ok (.iload 4, 2) := by decide +kernel
theorem dX3_keep_105 : decode cX3_keep 105 = .ok (.invokevirtual 78, 3) := by decide +kernel
theorem dX3_keep_108 : decode cX3_keep 108 = .ok (.istore 5, 2) := by decide +kernel
theorem dX3_keep_110 : decode cX3_keep 110 = .ok (.iconst 0, 1) := by decide +kernel
theorem dX3_keep_111 : decode cX3_keep 111 = .ok (.istore 6, 2) := by decide +kernel
theorem dX3_keep_113 : decode cX3_keep 113 = .ok (.iload 6, 2) := by decide +kernel
theorem dX3_keep_115 : decode cX3_keep 115 = .ok (.iload 4, 2) := by decide +kernel
theorem dX3_keep_117 : decode cX3_keep 117 = .ok (.if_icmp .ge 29, 3) := by decide +kernel
theorem dX3_keep_120 : decode cX3_keep 120 = .ok (.aload_n 0, 1) := by decide +kernel
theorem dX3_keep_121 : decode cX3_keep 121 = .ok (.getfield 19, 3) := by decide +kernel
theorem dX3_keep_124 : decode cX3_keep 124 = .ok (.bipush 10, 2) := by decide +kernel
theorem dX3_keep_126 : decode cX3_keep 126 = .ok (.iload 5, 2) := by decide +kernel
theorem dX3_keep_128 : decode cX3_keep 128 = .ok (.imul, 1) := by decide +kernel
theorem dX3_keep_129 : decode cX3_keep 129 = .ok (.iload 6, 2) := by decide +kernel
theorem dX3_keep_131 : decode cX3_keep 131 = .ok (.iadd, 1) := by decide +kernel
theorem dX3_keep_132 : decode cX3_keep 132 = .ok (.aload_n 0, 1) := by decide +kernel
theorem dX3_keep_133 : decode cX3_keep 133 = .ok (.getfield 59, 3) := by decide +kernel
theorem dX3_keep_136 : decode cX3_keep 136 = .ok (.iload 6, 2) := by decide +kernel
theorem dX3_keep_138 : decode cX3_keep 138 = .ok (.iaload, 1) := by decide +kernel
theorem dX3_keep_139 : decode cX3_keep 139 = .ok (.iastore, 1) := by decide +kernel
theorem dX3_keep_140 : decode cX3_keep 140 = .ok (.iinc 6 1, 3) := by decide +kernel
theorem dX3_keep_143 : decode cX3_keep 143 = .ok (.goto (-30), 3) := by decide +kernel
theorem dX3_keep_146 : decode cX3_keep 146 = .ok (.aload_n 0, 1) := by decide +kernel
theorem dX3_keep_147 : decode cX3_keep 147 = .ok (.getfield 13, 3) := by decide +kernel
theorem dX3_keep_150 : decode cX3_keep 150 = .ok (.iload_n 2, 1) := by decide +kernel
theorem dX3_keep_151 : decode cX3_keep 151 = .ok (.iload 5, 2) := by decide +kernel
theorem dX3_keep_153 : decode cX3_keep 153 = .ok (.iastore, 1) := by decide +kernel
theorem dX3_keep_154 : decode cX3_keep 154 = .ok (.aload_n 0, 1) := by decide +kernel
theorem dX3_keep_155 : decode cX3_keep 155 = .ok (.iload 4, 2) := by decide +kernel
theorem dX3_keep_157 : decode cX3_keep 157 = .ok (.invokevirtual 149, 3) := by decide +kernel
theorem dX3_keep_160 : decode cX3_keep 160 = .ok (.ireturn, 1) := by decide +kernel
set_option maxRecDepth 20000 in
theorem ggX3_order_X3_isRule : GoodIn wsX3_order wsX3_isRule := goodIn_r _ [10, 11, 12, 13, 9, 14, 84, 85, 86, 87, 88, 89, 90, 91, 92, 93, 94, 95, 96, 97, 98, 99, 100, 101, 102, 103, 104, 105, 106, 107, 108, 109, 110, 111, 112, 113] (by decide +kernel) (by decide +kernel)
set_option maxRecDepth 20000 in
theorem gX3_order_X3_isRule : GoodIn wsX3_order (wsV RX3 140 RX3 yX3_isRule wsX3_isRule) := goodIn_app (goodIn_of _ (by decide +kernel)) ggX3_order_X3_isRule
set_option maxRecDepth 20000 in
theorem ggX3_order_X3_in : GoodIn wsX3_order wsX3_in := goodIn_r _ [14] (by decide +kernel) (by decide +kernel)
