theorem dX5_hear_127 : decode cX5_hear 127 = .ok (.aload_n 0, 1) := by decide +kernel
theorem dX5_hear_128 : decode cX5_hear 128 = .ok (.aload_n 1, 1) := by decide +kernel
theorem dX5_hear_129 : decode cX5_hear 129 = .ok (.iconst 1, 1) := by decide +kernel
theorem dX5_hear_130 : decode cX5_hear 130 = .ok (.iaload, 1) := by decide +kernel
theorem dX5_hear_131 : decode cX5_hear 131 = .ok (.invokevirtual 74, 3) := by decide +kernel
theorem dX5_hear_134 : decode cX5_hear 134 = .ok (.aload_n 2, 1) := by decide +kernel
theorem dX5_hear_135 : decode cX5_hear 135 = .ok (.aload_n 2, 1) := by decide +kernel
theorem dX5_hear_136 : decode cX5_hear 136 = .ok (.getfield 54, 3) := by decide +kernel
theorem dX5_hear_139 : decode cX5_hear 139 = .ok (.iconst 2, 1) := by decide +kernel
theorem dX5_hear_140 : decode cX5_hear 140 = .ok (.newarray .int, 2) := by decide +kernel
theorem dX5_hear_142 : decode cX5_hear 142 = .ok (.dup, 1) := by decide +kernel
theorem dX5_hear_143 : decode cX5_hear 143 = .ok (.iconst 0, 1) := by decide +kernel
theorem dX5_hear_144 : decode cX5_hear 144 = .ok (.aload_n 1, 1) := by decide +kernel
theorem dX5_hear_145 : decode cX5_hear 145 = .ok (.iconst 0, 1) := by decide +kernel
theorem dX5_hear_146 : decode cX5_hear 146 = .ok (.iaload, 1) := by decide +kernel
theorem dX5_hear_147 : decode cX5_hear 147 = .ok (.iastore, 1) := by decide +kernel
theorem dX5_hear_148 : decode cX5_hear 148 = .ok (.dup, 1) := by decide +kernel
theorem dX5_hear_149 : decode cX5_hear 149 = .ok (.iconst 1, 1) := by decide +kernel
theorem dX5_hear_150 : decode cX5_hear 150 = .ok (.aload_n 1, 1) := by decide +kernel
theorem dX5_hear_151 : decode cX5_hear 151 = .ok (.iconst 4, 1) := by decide +kernel
theorem dX5_hear_152 : decode cX5_hear 152 = .ok (.iaload, 1) := by decide +kernel
theorem dX5_hear_153 : decode cX5_hear 153 = .ok (.iastore, 1) := by decide +kernel
theorem dX5_hear_154 : decode cX5_hear 154 = .ok (.invokestatic 41, 3) := by decide +kernel
theorem dX5_hear_157 : decode cX5_hear 157 = .ok (.putfield 54, 3) := by decide +kernel
theorem dX5_hear_160 : decode cX5_hear 160 = .ok (.return_, 1) := by decide +kernel
set_option maxRecDepth 20000 in
theorem ggX5_pass_X5_more : GoodIn wsX5_pass wsX5_more := goodIn_r _ [13, 4] (by decide +kernel) (by decide +kernel)
set_option maxRecDepth 20000 in
theorem gX5_pass_X5_more : GoodIn wsX5_pass (va_wsS RX5 41 yX5_more wsX5_more) := goodIn_app (goodIn_of _ (by decide +kernel)) ggX5_pass_X5_more
set_option maxRecDepth 20000 in
theorem ggX5_pass_X5_hear : GoodIn wsX5_pass wsX5_hear := goodIn_r _ [17, 1, 6, 2, 8, 18, 19, 20, 21, 12, 22, 5, 23, 10, 11, 13, 4, 24, 25, 26, 27, 28, 3, 42, 43, 44, 45, 46, 47, 48, 49, 50, 51, 52, 53, 54] (by decide +kernel) (by decide +kernel)
set_option maxRecDepth 20000 in
theorem gX5_pass_X5_hear : GoodIn wsX5_pass (wsV RX5 78 RX5 yX5_hear wsX5_hear) := goodIn_app (goodIn_of _ (by decide +kernel)) ggX5_pass_X5_hear
set_option maxRecDepth 20000 in
theorem ggX5_pass_X4_answers : GoodIn wsX5_pass wsX4_answers := goodIn_r _ [33, 34, 35, 46, 47, 48, 49, 50, 51, 52, 53, 54] (by decide +kernel) (by decide +kernel)
set_option maxRecDepth 20000 in
theorem gX5_pass_X4_answers : GoodIn wsX5_pass (wsV RX5 82 RX4 yX4_answers wsX4_answers) := goodIn_app (goodIn_of _ (by decide +kernel)) ggX5_pass_X4_answers
set_option maxRecDepth 20000 in
theorem ggX5_pass_X5_turn : GoodIn wsX5_pass wsX5_turn := goodIn_r _ [39, 2, 3, 40, 41, 46, 47, 48, 49, 50, 51, 52, 53, 54] (by decide +kernel) (by decide +kernel)
set_option maxRecDepth 20000 in
theorem gX5_pass_X5_turn : GoodIn wsX5_pass (wsV RX5 70 RX5 yX5_turn wsX5_turn) := goodIn_app (goodIn_of _ (by decide +kernel)) ggX5_pass_X5_turn
set_option maxRecDepth 20000 in
theorem ggX5_pass_X5_send : GoodIn wsX5_pass wsX5_send := goodIn_r _ [22, 5, 18, 23, 10, 11, 12, 13, 4, 42, 43, 44, 45] (by decide +kernel) (by decide +kernel)
set_option maxRecDepth 20000 in
theorem gX5_pass_X5_send : GoodIn wsX5_pass (wsV RX5 60 RX5 yX5_send wsX5_send) := goodIn_app (goodIn_of _ (by decide +kernel)) ggX5_pass_X5_send
theorem dX5_pass_0 : decode cX5_pass 0 = .ok (.iconst 0, 1) := by decide +kernel
theorem dX5_pass_1 : decode cX5_pass 1 = .ok (.istore_n 1, 1) := by decide +kernel
theorem dX5_pass_2 : decode cX5_pass 2 = .ok (.aload_n 0, 1) := by decide +kernel
theorem dX5_pass_3 : decode cX5_pass 3 = .ok (.getfield 9, 3) := by decide +kernel
theorem dX5_pass_6 : decode cX5_pass 6 = .ok (.astore_n 2, 1) := by decide +kernel
theorem dX5_pass_7 : decode cX5_pass 7 = .ok (.aload_n 2, 1) := by decide +kernel
theorem dX5_pass_8 : decode cX5_pass 8 = .ok (.arraylength, 1) := by decide +kernel
theorem dX5_pass_9 : decode cX5_pass 9 = .ok (.istore_n 3, 1) := by decide +kernel
theorem dX5_pass_10 : decode cX5_pass 10 = .ok (.iconst 0, 1) := by decide +kernel
theorem dX5_pass_11 : decode cX5_pass 11 = .ok (.istore 4, 2) := by decide +kernel
theorem dX5_pass_13 : decode cX5_pass 13 = .ok (.iload 4, 2) := by decide +kernel
theorem dX5_pass_15 : decode cX5_pass 15 = .ok (.iload_n 3, 1) := by decide +kernel
theorem dX5_pass_16 : decode cX5_pass 16 = .ok (.if_icmp .ge 52, 3) := by decide +kernel
theorem dX5_pass_19 : decode cX5_pass 19 = .ok (.aload_n 2, 1) := by decide +kernel
theorem dX5_pass_20 : decode cX5_pass 20 = .ok (.iload 4, 2) := by decide +kernel
theorem dX5_pass_22 : decode cX5_pass 22 = .ok (.aaload, 1) := by decide +kernel
theorem dX5_pass_23 : decode cX5_pass 23 = .ok (.astore 5, 2) := by decide +kernel
theorem dX5_pass_25 : decode cX5_pass 25 = .ok (.aload 5, 2) := by decide +kernel
theorem dX5_pass_27 : decode cX5_pass 27 = .ok (.getfield 48, 3) := by decide +kernel
theorem dX5_pass_30 : decode cX5_pass 30 = .ok (.iconst 2, 1) := by decide +kernel
theorem dX5_pass_31 : decode cX5_pass 31 = .ok (.if_icmp .ge 6, 3) := by decide +kernel
theorem dX5_pass_34 : decode cX5_pass 34 = .ok (.goto 28, 3) := by decide +kernel
theorem dX5_pass_37 : decode cX5_pass 37 = .ok (.aload 5, 2) := by decide +kernel
theorem dX5_pass_39 : decode cX5_pass 39 = .ok (.dup, 1) := by decide +kernel
theorem dX5_pass_40 : decode cX5_pass 40 = .ok (.getfield 51, 3) := by decide +kernel
theorem dX5_pass_43 : decode cX5_pass 43 = .ok (.iconst 1, 1) := by decide +kernel
theorem dX5_pass_44 : decode cX5_pass 44 = .ok (.isub, 1) := by decide +kernel
theorem dX5_pass_45 : decode cX5_pass 45 = .ok (.putfield 51, 3) := by decide +kernel
theorem dX5_pass_48 : decode cX5_pass 48 = .ok (.aload 5, 2) := by decide +kernel
theorem dX5_pass_50 : decode cX5_pass 50 = .ok (.getfield 51, 3) := by decide +kernel
theorem dX5_pass_53 : decode cX5_pass 53 = .ok (.ifCond .ne 9, 3) := by decide +kernel
theorem dX5_pass_56 : decode cX5_pass 56 = .ok (.aload 5, 2) := by decide +kernel
theorem dX5_pass_58 : decode cX5_pass 58 = .ok (.iconst 0, 1) := by decide +kernel
theorem dX5_pass_59 : decode cX5_pass 59 = .ok (.putfield 48, 3) := by decide +kernel
theorem dX5_pass_62 : decode cX5_pass 62 = .ok (.iinc 4 1, 3) := by decide +kernel
theorem dX5_pass_65 : decode cX5_pass 65 = .ok (.goto (-52), 3) := by decide +kernel
theorem dX5_pass_68 : decode cX5_pass 68 = .ok (.iconst 0, 1) := by decide +kernel
theorem dX5_pass_69 : decode cX5_pass 69 = .ok (.anewarray 15, 3) := by decide +kernel
theorem dX5_pass_72 : decode cX5_pass 72 = .ok (.astore_n 2, 1) := by decide +kernel
theorem dX5_pass_73 : decode cX5_pass 73 = .ok (.iconst 0, 1) := by decide +kernel
theorem dX5_pass_74 : decode cX5_pass 74 = .ok (.anewarray 15, 3) := by decide +kernel
theorem dX5_pass_77 : decode cX5_pass 77 = .ok (.astore_n 3, 1) := by decide +kernel
theorem dX5_pass_78 : decode cX5_pass 78 = .ok (.aload_n 0, 1) := by decide +kernel
theorem dX5_pass_79 : decode cX5_pass 79 = .ok (.getfield 17, 3) := by decide +kernel
theorem dX5_pass_82 : decode cX5_pass 82 = .ok (.astore 4, 2) := by decide +kernel
theorem dX5_pass_84 : decode cX5_pass 84 = .ok (.aload 4, 2) := by decide +kernel
theorem dX5_pass_86 : decode cX5_pass 86 = .ok (.arraylength, 1) := by decide +kernel
theorem dX5_pass_87 : decode cX5_pass 87 = .ok (.istore 5, 2) := by decide +kernel
theorem dX5_pass_89 : decode cX5_pass 89 = .ok (.iconst 0, 1) := by decide +kernel
theorem dX5_pass_90 : decode cX5_pass 90 = .ok (.istore 6, 2) := by decide +kernel
theorem dX5_pass_92 : decode cX5_pass 92 = .ok (.iload 6, 2) := by decide +kernel
theorem dX5_pass_94 : decode cX5_pass 94 = .ok (.iload 5, 2) := by decide +kernel
theorem dX5_pass_96 : decode cX5_pass 96 = .ok (.if_icmp .ge 48, 3) := by decide +kernel
theorem dX5_pass_99 : decode cX5_pass 99 = .ok (.aload 4, 2) := by decide +kernel
theorem dX5_pass_101 : decode cX5_pass 101 = .ok (.iload 6, 2) := by decide +kernel
theorem dX5_pass_103 : decode cX5_pass 103 = .ok (.aaload, 1) := by decide +kernel
theorem dX5_pass_104 : decode cX5_pass 104 = .ok (.astore 7, 2) := by decide +kernel
theorem dX5_pass_106 : decode cX5_pass 106 = .ok (.aload 7, 2) := by decide +kernel
theorem dX5_pass_108 : decode cX5_pass 108 = .ok (.iconst 3, 1) := by decide +kernel
theorem dX5_pass_109 : decode cX5_pass 109 = .ok (.dup2, 1) := by decide +kernel
theorem dX5_pass_110 : decode cX5_pass 110 = .ok (.iaload, 1) := by decide +kernel
theorem dX5_pass_111 : decode cX5_pass 111 = .ok (.iconst 1, 1) := by decide +kernel
theorem dX5_pass_112 : decode cX5_pass 112 = .ok (.isub, 1) := by decide +kernel
theorem dX5_pass_113 : decode cX5_pass 113 = .ok (.iastore, 1) := by decide +kernel
theorem dX5_pass_114 : decode cX5_pass 114 = .ok (.aload 7, 2) := by decide +kernel
theorem dX5_pass_116 : decode cX5_pass 116 = .ok (.iconst 3, 1) := by decide +kernel
theorem dX5_pass_117 : decode cX5_pass 117 = .ok (.iaload, 1) := by decide +kernel
theorem dX5_pass_118 : decode cX5_pass 118 = .ok (.ifCond .ne 13, 3) := by decide +kernel
theorem dX5_pass_121 : decode cX5_pass 121 = .ok (.aload_n 2, 1) := by decide +kernel
theorem dX5_pass_122 : decode cX5_pass 122 = .ok (.aload 7, 2) := by decide +kernel
theorem dX5_pass_124 : decode cX5_pass 124 = .ok (.invokestatic 41, 3) := by decide +kernel
theorem dX5_pass_127 : decode cX5_pass 127 = .ok (.astore_n 2, 1) := by decide +kernel
theorem dX5_pass_128 : decode cX5_pass 128 = .ok (.goto 10, 3) := by decide +kernel
theorem dX5_pass_131 : decode cX5_pass 131 = .ok (.aload_n 3, 1) := by decide +kernel
theorem dX5_pass_132 : decode cX5_pass 132 = .ok (.aload 7, 2) := by decide +kernel
theorem dX5_pass_134 : decode cX5_pass 134 = .ok (.invokestatic 41, 3) := by decide +kernel
theorem dX5_pass_137 : decode cX5_pass 137 = .ok (.astore_n 3, 1) := by decide +kernel
theorem dX5_pass_138 : decode cX5_pass 138 = .ok (.iinc 6 1, 3) := by decide +kernel
theorem dX5_pass_141 : decode cX5_pass 141 = .ok (.goto (-49), 3) := by decide +kernel
theorem dX5_pass_144 : decode cX5_pass 144 = .ok (.aload_n 0, 1) := by decide +kernel
theorem dX5_pass_145 : decode cX5_pass 145 = .ok (.aload_n 3, 1) := by decide +kernel
theorem dX5_pass_146 : decode cX5_pass 146 = .ok (.putfield 17, 3) := by decide +kernel
theorem dX5_pass_149 : decode cX5_pass 149 = .ok (.aload_n 2, 1) := by decide +kernel
theorem dX5_pass_150 : decode cX5_pass 150 = .ok (.astore 4, 2) := by decide +kernel
theorem dX5_pass_152 : decode cX5_pass 152 = .ok (.aload 4, 2) := by decide +kernel
theorem dX5_pass_154 : decode cX5_pass 154 = .ok (.arraylength, 1) := by decide +kernel
theorem dX5_pass_155 : decode cX5_pass 155 = .ok (.istore 5, 2) := by decide +kernel
theorem dX5_pass_157 : decode cX5_pass 157 = .ok (.iconst 0, 1) := by decide +kernel
theorem dX5_pass_158 : decode cX5_pass 158 = .ok (.istore 6, 2) := by decide +kernel
theorem dX5_pass_160 : decode cX5_pass 160 = .ok (.iload 6, 2) := by decide +kernel
theorem dX5_pass_162 : decode cX5_pass 162 = .ok (.iload 5, 2) := by decide +kernel
theorem dX5_pass_164 : decode cX5_pass 164 = .ok (.if_icmp .ge 22, 3) := by decide +kernel
theorem dX5_pass_167 : decode cX5_pass 167 = .ok (.aload 4, 2) := by decide +kernel
theorem dX5_pass_169 : decode cX5_pass 169 = .ok (.iload 6, 2) := by decide +kernel
theorem dX5_pass_171 : decode cX5_pass 171 = .ok (.aaload, 1) := by decide +kernel
theorem dX5_pass_172 : decode cX5_pass 172 = .ok (.astore 7, 2) := by decide +kernel
theorem dX5_pass_174 : decode cX5_pass 174 = .ok (.aload_n 0, 1) := by decide +kernel
theorem dX5_pass_175 : decode cX5_pass 175 = .ok (.aload 7, 2) := by decide +kernel
theorem dX5_pass_177 : decode cX5_pass 177 = .ok (.invokevirtual 78, 3) := by decide +kernel
theorem dX5_pass_180 : decode cX5_pass 180 = .ok (.iinc 6 1, 3) := by decide +kernel
theorem dX5_pass_183 : decode cX5_pass 183 = .ok (.goto (-23), 3) := by decide +kernel
theorem dX5_pass_186 : decode cX5_pass 186 = .ok (.iconst 0, 1) := by decide +kernel
theorem dX5_pass_187 : decode cX5_pass 187 = .ok (.istore 4, 2) := by decide +kernel
theorem dX5_pass_189 : decode cX5_pass 189 = .ok (.iload 4, 2) := by decide +kernel
theorem dX5_pass_191 : decode cX5_pass 191 = .ok (.aload_n 0, 1) := by decide +kernel
theorem dX5_pass_192 : decode cX5_pass 192 = .ok (.getfield 9, 3) := by decide +kernel
theorem dX5_pass_195 : decode cX5_pass 195 = .ok (.arraylength, 1) := by decide +kernel
theorem dX5_pass_196 : decode cX5_pass 196 = .ok (.if_icmp .ge 256, 3) := by decide +kernel
theorem dX5_pass_199 : decode cX5_pass 199 = .ok (.aload_n 0, 1) := by decide +kernel
theorem dX5_pass_200 : decode cX5_pass 200 = .ok (.getfield 9, 3) := by decide +kernel
theorem dX5_pass_203 : decode cX5_pass 203 = .ok (.iload 4, 2) := by decide +kernel
theorem dX5_pass_205 : decode cX5_pass 205 = .ok (.aaload, 1) := by decide +kernel
theorem dX5_pass_206 : decode cX5_pass 206 = .ok (.astore 5, 2) := by decide +kernel
theorem dX5_pass_208 : decode cX5_pass 208 = .ok (.aload 5, 2) := by decide +kernel
theorem dX5_pass_210 : decode cX5_pass 210 = .ok (.getfield 48, 3) := by decide +kernel
theorem dX5_pass_213 : decode cX5_pass 213 = .ok (.iconst 1, 1) := by decide +kernel
theorem dX5_pass_214 : decode cX5_pass 214 = .ok (.if_icmp .eq 6, 3) := by decide +kernel
theorem dX5_pass_217 : decode cX5_pass 217 = .ok (.goto 229, 3) := by decide +kernel
theorem dX5_pass_220 : decode cX5_pass 220 = .ok (.aload 5, 2) := by decide +kernel
theorem dX5_pass_222 : decode cX5_pass 222 = .ok (.dup, 1) := by decide +kernel
theorem dX5_pass_223 : decode cX5_pass 223 = .ok (.getfield 51, 3) := by decide +kernel
theorem dX5_pass_226 : decode cX5_pass 226 = .ok (.iconst 1, 1) := by decide +kernel
theorem dX5_pass_227 : decode cX5_pass 227 = .ok (.isub, 1) := by decide +kernel
theorem dX5_pass_228 : decode cX5_pass 228 = .ok (.putfield 51, 3) := by decide +kernel
theorem dX5_pass_231 : decode cX5_pass 231 = .ok (.aload 5, 2) := by decide +kernel
theorem dX5_pass_233 : decode cX5_pass 233 = .ok (.getfield 51, 3) := by decide +kernel
theorem dX5_pass_236 : decode cX5_pass 236 = .ok (.ifCond .le 21, 3) := by decide +kernel
theorem dX5_pass_239 : decode cX5_pass 239 = .ok (.aload 5, 2) := by decide +kernel
theorem dX5_pass_241 : decode cX5_pass 241 = .ok (.iconst (-1), 1) := by decide +kernel
theorem dX5_pass_242 : decode cX5_pass 242 = .ok (.invokevirtual 82, 3) := by decide +kernel
theorem dX5_pass_245 : decode cX5_pass 245 = .ok (.aload 5, 2) := by decide +kernel
theorem dX5_pass_247 : decode cX5_pass 247 = .ok (.getfield 57, 3) := by decide +kernel
theorem dX5_pass_250 : decode cX5_pass 250 = .ok (.arraylength, 1) := by decide +kernel
theorem dX5_pass_251 : decode cX5_pass 251 = .ok (.if_icmp .ge 6, 3) := by decide +kernel
theorem dX5_pass_254 : decode cX5_pass 254 = .ok (.goto 192, 3) := by decide +kernel
theorem dX5_pass_257 : decode cX5_pass 257 = .ok (.aload 5, 2) := by decide +kernel
theorem dX5_pass_259 : decode cX5_pass 259 = .ok (.iconst 1, 1) := by decide +kernel
theorem dX5_pass_260 : decode cX5_pass 260 = .ok (.invokevirtual 82, 3) := by decide +kernel
theorem dX5_pass_263 : decode cX5_pass 263 = .ok (.istore 6, 2) := by decide +kernel
theorem dX5_pass_265 : decode cX5_pass 265 = .ok (.aload 5, 2) := by decide +kernel
theorem dX5_pass_267 : decode cX5_pass 267 = .ok (.getfield 38, 3) := by decide +kernel
theorem dX5_pass_270 : decode cX5_pass 270 = .ok (.ifCond .ne 22, 3) := by decide +kernel
theorem dX5_pass_273 : decode cX5_pass 273 = .ok (.iload 6, 2) := by decide +kernel
theorem dX5_pass_275 : decode cX5_pass 275 = .ok (.aload 5, 2) := by decide +kernel
theorem dX5_pass_277 : decode cX5_pass 277 = .ok (.getfield 57, 3) := by decide +kernel
theorem dX5_pass_280 : decode cX5_pass 280 = .ok (.arraylength, 1) := by decide +kernel
theorem dX5_pass_281 : decode cX5_pass 281 = .ok (.if_icmp .ne 7, 3) := by decide +kernel
theorem dX5_pass_284 : decode cX5_pass 284 = .ok (.iconst 1, 1) := by decide +kernel
theorem dX5_pass_285 : decode cX5_pass 285 = .ok (.goto 70, 3) := by decide +kernel
theorem dX5_pass_288 : decode cX5_pass 288 = .ok (.iconst 0, 1) := by decide +kernel
theorem dX5_pass_289 : decode cX5_pass 289 = .ok (.goto 66, 3) := by decide +kernel
theorem dX5_pass_292 : decode cX5_pass 292 = .ok (.aload 5, 2) := by decide +kernel
theorem dX5_pass_294 : decode cX5_pass 294 = .ok (.getfield 38, 3) := by decide +kernel
theorem dX5_pass_297 : decode cX5_pass 297 = .ok (.iconst 1, 1) := by decide +kernel
theorem dX5_pass_298 : decode cX5_pass 298 = .ok (.if_icmp .ne 16, 3) := by decide +kernel
theorem dX5_pass_301 : decode cX5_pass 301 = .ok (.iload 6, 2) := by decide +kernel
theorem dX5_pass_303 : decode cX5_pass 303 = .ok (.ifCond .le 7, 3) := by decide +kernel
theorem dX5_pass_306 : decode cX5_pass 306 = .ok (.iconst 1, 1) := by decide +kernel
theorem dX5_pass_307 : decode cX5_pass 307 = .ok (.goto 48, 3) := by decide +kernel
theorem dX5_pass_310 : decode cX5_pass 310 = .ok (.iconst 0, 1) := by decide +kernel
theorem dX5_pass_311 : decode cX5_pass 311 = .ok (.goto 44, 3) := by decide +kernel
theorem dX5_pass_314 : decode cX5_pass 314 = .ok (.aload 5, 2) := by decide +kernel
theorem dX5_pass_316 : decode cX5_pass 316 = .ok (.getfield 38, 3) := by decide +kernel
theorem dX5_pass_319 : decode cX5_pass 319 = .ok (.iconst 2, 1) := by decide +kernel
theorem dX5_pass_320 : decode cX5_pass 320 = .ok (.if_icmp .ne 25, 3) := by decide +kernel
theorem dX5_pass_323 : decode cX5_pass 323 = .ok (.iload 6, 2) := by decide +kernel
theorem dX5_pass_325 : decode cX5_pass 325 = .ok (.iload 6, 2) := by decide +kernel
theorem dX5_pass_327 : decode cX5_pass 327 = .ok (.iadd, 1) := by decide +kernel
theorem dX5_pass_328 : decode cX5_pass 328 = .ok (.aload 5, 2) := by decide +kernel
theorem dX5_pass_330 : decode cX5_pass 330 = .ok (.getfield 57, 3) := by decide +kernel
theorem dX5_pass_333 : decode cX5_pass 333 = .ok (.arraylength, 1) := by decide +kernel
theorem dX5_pass_334 : decode cX5_pass 334 = .ok (.if_icmp .le 7, 3) := by decide +kernel
theorem dX5_pass_337 : decode cX5_pass 337 = .ok (.iconst 1, 1) := by decide +kernel
theorem dX5_pass_338 : decode cX5_pass 338 = .ok (.goto 17, 3) := by decide +kernel
theorem dX5_pass_341 : decode cX5_pass 341 = .ok (.iconst 0, 1) := by decide +kernel
theorem dX5_pass_342 : decode cX5_pass 342 = .ok (.goto 13, 3) := by decide +kernel
theorem dX5_pass_345 : decode cX5_pass 345 = .ok (.iload 6, 2) := by decide +kernel
theorem dX5_pass_347 : decode cX5_pass 347 = .ok (.ifCond .ne 7, 3) := by decide +kernel
theorem dX5_pass_350 : decode cX5_pass 350 = .ok (.iconst 1, 1) := by decide +kernel
theorem dX5_pass_351 : decode cX5_pass 351 = .ok (.goto 4, 3) := by decide +kernel
theorem dX5_pass_354 : decode cX5_pass 354 = .ok (.iconst 0, 1) := by decide +kernel
theorem dX5_pass_355 : decode cX5_pass 355 = .ok (.istore 7, 2) := by decide +kernel
theorem dX5_pass_357 : decode cX5_pass 357 = .ok (.aload_n 0, 1) := by decide +kernel
theorem dX5_pass_358 : decode cX5_pass 358 = .ok (.aload 5, 2) := by decide +kernel
theorem dX5_pass_360 : decode cX5_pass 360 = .ok (.iload 7, 2) := by decide +kernel
theorem dX5_pass_362 : decode cX5_pass 362 = .ok (.invokevirtual 70, 3) := by decide +kernel
theorem dX5_pass_365 : decode cX5_pass 365 = .ok (.aload 5, 2) := by decide +kernel
theorem dX5_pass_367 : decode cX5_pass 367 = .ok (.getfield 54, 3) := by decide +kernel
theorem dX5_pass_370 : decode cX5_pass 370 = .ok (.astore 8, 2) := by decide +kernel
theorem dX5_pass_372 : decode cX5_pass 372 = .ok (.aload 8, 2) := by decide +kernel
theorem dX5_pass_374 : decode cX5_pass 374 = .ok (.arraylength, 1) := by decide +kernel
theorem dX5_pass_375 : decode cX5_pass 375 = .ok (.istore 9, 2) := by decide +kernel
theorem dX5_pass_377 : decode cX5_pass 377 = .ok (.iconst 0, 1) := by decide +kernel
theorem dX5_pass_378 : decode cX5_pass 378 = .ok (.istore 10, 2) := by decide +kernel
theorem dX5_pass_380 : decode cX5_pass 380 = .ok (.iload 10, 2) := by decide +kernel
theorem dX5_pass_382 : decode cX5_pass 382 = .ok (.iload 9, 2) := by decide +kernel
theorem dX5_pass_384 : decode cX5_pass 384 = .ok (.if_icmp .ge 40, 3) := by decide +kernel
theorem dX5_pass_387 : decode cX5_pass 387 = .ok (.aload 8, 2) := by decide +kernel
theorem dX5_pass_389 : decode cX5_pass 389 = .ok (.iload 10, 2) := by decide +kernel
theorem dX5_pass_391 : decode cX5_pass 391 = .ok (.aaload, 1) := by decide +kernel
theorem dX5_pass_392 : decode cX5_pass 392 = .ok (.astore 11, 2) := by decide +kernel
theorem dX5_pass_394 : decode cX5_pass 394 = .ok (.aload_n 0, 1) := by decide +kernel
theorem dX5_pass_395 : decode cX5_pass 395 = .ok (.iload 4, 2) := by decide +kernel
theorem dX5_pass_397 : decode cX5_pass 397 = .ok (.aload 11, 2) := by decide +kernel
theorem dX5_pass_399 : decode cX5_pass 399 = .ok (.iconst 0, 1) := by decide +kernel
theorem dX5_pass_400 : decode cX5_pass 400 = .ok (.iaload, 1) := by decide +kernel
theorem dX5_pass_401 : decode cX5_pass 401 = .ok (.iload 7, 2) := by decide +kernel
theorem dX5_pass_403 : decode cX5_pass 403 = .ok (.ifCond .eq 7, 3) := by decide +kernel
theorem dX5_pass_406 : decode cX5_pass 406 = .ok (.iconst 2, 1) := by decide +kernel
theorem dX5_pass_407 : decode cX5_pass 407 = .ok (.goto 4, 3) := by decide +kernel
theorem dX5_pass_410 : decode cX5_pass 410 = .ok (.iconst 1, 1) := by decide +kernel
theorem dX5_pass_411 : decode cX5_pass 411 = .ok (.aload 11, 2) := by decide +kernel
theorem dX5_pass_413 : decode cX5_pass 413 = .ok (.iconst 1, 1) := by decide +kernel
theorem dX5_pass_414 : decode cX5_pass 414 = .ok (.iaload, 1) := by decide +kernel
theorem dX5_pass_415 : decode cX5_pass 415 = .ok (.invokevirtual 60, 3) := by decide +kernel
theorem dX5_pass_418 : decode cX5_pass 418 = .ok (.iinc 10 1, 3) := by decide +kernel
theorem dX5_pass_421 : decode cX5_pass 421 = .ok (.goto (-41), 3) := by decide +kernel
theorem dX5_pass_424 : decode cX5_pass 424 = .ok (.aload 5, 2) := by decide +kernel
theorem dX5_pass_426 : decode cX5_pass 426 = .ok (.iconst 0, 1) := by decide +kernel
theorem dX5_pass_427 : decode cX5_pass 427 = .ok (.anewarray 15, 3) := by decide +kernel
theorem dX5_pass_430 : decode cX5_pass 430 = .ok (.putfield 54, 3) := by decide +kernel
theorem dX5_pass_433 : decode cX5_pass 433 = .ok (.iload_n 1, 1) := by decide +kernel
theorem dX5_pass_434 : decode cX5_pass 434 = .ok (.iload 7, 2) := by decide +kernel
theorem dX5_pass_436 : decode cX5_pass 436 = .ok (.ifCond .eq 7, 3) := by decide +kernel
theorem dX5_pass_439 : decode cX5_pass 439 = .ok (.iconst 1, 1) := by decide +kernel
theorem dX5_pass_440 : decode cX5_pass 440 = .ok (.goto 4, 3) := by decide +kernel
theorem dX5_pass_443 : decode cX5_pass 443 = .ok (.iconst 0, 1) := by decide +kernel
theorem dX5_pass_444 : decode cX5_pass 444 = .ok (.iadd, 1) := by decide +kernel
theorem dX5_pass_445 : decode cX5_pass 445 = .ok (.istore_n 1, 1) := by decide +kernel
theorem dX5_pass_446 : decode cX5_pass 446 = .ok (.iinc 4 1, 3) := by decide +kernel
theorem dX5_pass_449 : decode cX5_pass 449 = .ok (.goto (-260), 3) := by decide +kernel
theorem dX5_pass_452 : decode cX5_pass 452 = .ok (.aload_n 0, 1) := by decide +kernel
theorem dX5_pass_453 : decode cX5_pass 453 = .ok (.dup, 1) := by decide +kernel
theorem dX5_pass_454 : decode cX5_pass 454 = .ok (.getfield 86, 3) := by decide +kernel
theorem dX5_pass_457 : decode cX5_pass 457 = .ok (.iconst 1, 1) := by decide +kernel
theorem dX5_pass_458 : decode cX5_pass 458 = .ok (.iadd, 1) := by decide +kernel
theorem dX5_pass_459 : decode cX5_pass 459 = .ok (.putfield 86, 3) := by decide +kernel
theorem dX5_pass_462 : decode cX5_pass 462 = .ok (.iload_n 1, 1) := by decide +kernel
theorem dX5_pass_463 : decode cX5_pass 463 = .ok (.ireturn, 1) := by decide +kernel
theorem dX5_open_0 : decode cX5_open 0 = .ok (.iconst 0, 1) := by decide +kernel
theorem dX5_open_1 : decode cX5_open 1 = .ok (.istore_n 1, 1) := by decide +kernel
theorem dX5_open_2 : decode cX5_open 2 = .ok (.iconst 0, 1) := by decide +kernel
theorem dX5_open_3 : decode cX5_open 3 = .ok (.istore_n 2, 1) := by decide +kernel
theorem dX5_open_4 : decode cX5_open 4 = .ok (.iload_n 2, 1) := by decide +kernel
theorem dX5_open_5 : decode cX5_open 5 = .ok (.aload_n 0, 1) := by decide +kernel
theorem dX5_open_6 : decode cX5_open 6 = .ok (.getfield 9, 3) := by decide +kernel
theorem dX5_open_9 : decode cX5_open 9 = .ok (.arraylength, 1) := by decide +kernel
theorem dX5_open_10 : decode cX5_open 10 = .ok (.if_icmp .ge 28, 3) := by decide +kernel
theorem dX5_open_13 : decode cX5_open 13 = .ok (.aload_n 0, 1) := by decide +kernel
theorem dX5_open_14 : decode cX5_open 14 = .ok (.getfield 9, 3) := by decide +kernel
theorem dX5_open_17 : decode cX5_open 17 = .ok (.iload_n 2, 1) := by decide +kernel
theorem dX5_open_18 : decode cX5_open 18 = .ok (.aaload, 1) := by decide +kernel
theorem dX5_open_19 : decode cX5_open 19 = .ok (.getfield 48, 3) := by decide +kernel
theorem dX5_open_22 : decode cX5_open 22 = .ok (.iconst 2, 1) := by decide +kernel
theorem dX5_open_23 : decode cX5_open 23 = .ok (.if_icmp .ne 9, 3) := by decide +kernel
theorem dX5_open_26 : decode cX5_open 26 = .ok (.iload_n 1, 1) := by decide +kernel
theorem dX5_open_27 : decode cX5_open 27 = .ok (.iconst 1, 1) := by decide +kernel
theorem dX5_open_28 : decode cX5_open 28 = .ok (.iload_n 2, 1) := by decide +kernel
theorem dX5_open_29 : decode cX5_open 29 = .ok (.ishl, 1) := by decide +kernel
theorem dX5_open_30 : decode cX5_open 30 = .ok (.iadd, 1) := by decide +kernel
theorem dX5_open_31 : decode cX5_open 31 = .ok (.istore_n 1, 1) := by decide +kernel
theorem dX5_open_32 : decode cX5_open 32 = .ok (.iinc 2 1, 3) := by decide +kernel
theorem dX5_open_35 : decode cX5_open 35 = .ok (.goto (-31), 3) := by decide +kernel
theorem dX5_open_38 : decode cX5_open 38 = .ok (.iload_n 1, 1) := by decide +kernel
theorem dX5_open_39 : decode cX5_open 39 = .ok (.ireturn, 1) := by decide +kernel
theorem dX5_with_0 : decode cX5_with 0 = .ok (.iconst 0, 1) := by decide +kernel
theorem dX5_with_1 : decode cX5_with 1 = .ok (.istore_n 2, 1) := by decide +kernel
theorem dX5_with_2 : decode cX5_with 2 = .ok (.aload_n 0, 1) := by decide +kernel
theorem dX5_with_3 : decode cX5_with 3 = .ok (.getfield 9, 3) := by decide +kernel
theorem dX5_with_6 : decode cX5_with 6 = .ok (.astore_n 3, 1) := by decide +kernel
theorem dX5_with_7 : decode cX5_with 7 = .ok (.aload_n 3, 1) := by decide +kernel
theorem dX5_with_8 : decode cX5_with 8 = .ok (.arraylength, 1) := by decide +kernel
theorem dX5_with_9 : decode cX5_with 9 = .ok (.istore 4, 2) := by decide +kernel
theorem dX5_with_11 : decode cX5_with 11 = .ok (.iconst 0, 1) := by decide +kernel
theorem dX5_with_12 : decode cX5_with 12 = .ok (.istore 5, 2) := by decide +kernel
theorem dX5_with_14 : decode cX5_with 14 = .ok (.iload 5, 2) := by decide +kernel
theorem dX5_with_16 : decode cX5_with 16 = .ok (.iload 4, 2) := by decide +kernel
theorem dX5_with_18 : decode cX5_with 18 = .ok (.if_icmp .ge 32, 3) := by decide +kernel
theorem dX5_with_21 : decode cX5_with 21 = .ok (.aload_n 3, 1) := by decide +kernel
theorem dX5_with_22 : decode cX5_with 22 = .ok (.iload 5, 2) := by decide +kernel
theorem dX5_with_24 : decode cX5_with 24 = .ok (.aaload, 1) := by decide +kernel
theorem dX5_with_25 : decode cX5_with 25 = .ok (.astore 6, 2) := by decide +kernel
theorem dX5_with_27 : decode cX5_with 27 = .ok (.iload_n 2, 1) := by decide +kernel
theorem dX5_with_28 : decode cX5_with 28 = .ok (.aload 6, 2) := by decide +kernel
theorem dX5_with_30 : decode cX5_with 30 = .ok (.getfield 48, 3) := by decide +kernel
theorem dX5_with_33 : decode cX5_with 33 = .ok (.iload_n 1, 1) := by decide +kernel
theorem dX5_with_34 : decode cX5_with 34 = .ok (.if_icmp .ne 7, 3) := by decide +kernel
theorem dX5_with_37 : decode cX5_with 37 = .ok (.iconst 1, 1) := by decide +kernel
theorem dX5_with_38 : decode cX5_with 38 = .ok (.goto 4, 3) := by decide +kernel
theorem dX5_with_41 : decode cX5_with 41 = .ok (.iconst 0, 1) := by decide +kernel
theorem dX5_with_42 : decode cX5_with 42 = .ok (.iadd, 1) := by decide +kernel
theorem dX5_with_43 : decode cX5_with 43 = .ok (.istore_n 2, 1) := by decide +kernel
theorem dX5_with_44 : decode cX5_with 44 = .ok (.iinc 5 1, 3) := by decide +kernel
theorem dX5_with_47 : decode cX5_with 47 = .ok (.goto (-33), 3) := by decide +kernel
theorem dX5_with_50 : decode cX5_with 50 = .ok (.iload_n 2, 1) := by decide +kernel
theorem dX5_with_51 : decode cX5_with 51 = .ok (.ireturn, 1) := by decide +kernel
set_option maxRecDepth 20000 in
theorem ggX5_isSame_X4_answers : GoodIn wsX5_isSame wsX4_answers := goodIn_r _ [17, 18, 19, 124, 125, 126, 127, 128, 129, 130, 131, 132] (by decide +kernel) (by decide +kernel)
set_option maxRecDepth 20000 in
theorem gX5_isSame_X4_answers : GoodIn wsX5_isSame (wsV RX5 82 RX4 yX4_answers wsX4_answers) := goodIn_app (goodIn_of _ (by decide +kernel)) ggX5_isSame_X4_answers
set_option maxRecDepth 20000 in
theorem ggX5_isSame_X3_door : GoodIn wsX5_isSame wsX3_door := goodIn_ca (goodIn_r _ [24, 25, 26, 27, 28, 29, 30, 31, 32, 33, 34, 35, 36, 23, 37, 38, 39, 40, 41, 42, 43, 44, 45, 46, 47, 48, 49, 50, 51, 52, 53, 54, 133, 134, 135, 136, 137, 138, 139, 140, 141, 142, 143, 144, 145, 146, 147, 148, 149, 150, 151, 152, 153] (by decide +kernel) (by decide +kernel)) (goodIn_sub (fun _ h => List.mem_cons_of_mem _ (List.mem_append_right _ h)) (by decide +kernel))
set_option maxRecDepth 20000 in
theorem gX5_isSame_X3_door : GoodIn wsX5_isSame (wsV RX5 107 RX3 yX3_door wsX3_door) := goodIn_app (goodIn_of _ (by decide +kernel)) ggX5_isSame_X3_door
set_option maxRecDepth 20000 in
theorem ggX5_isSame_X3_asks : GoodIn wsX5_isSame wsX3_asks := goodIn_ca (goodIn_r _ [58, 25, 26, 27, 28, 59, 29, 30, 31, 32, 33, 34, 35, 36, 23, 37, 60, 61, 62, 41, 63, 46, 64, 65, 54, 133, 134, 135, 136, 137, 138, 139, 140, 141, 142, 143, 144, 145, 146, 147, 148, 149, 150, 151, 152, 153] (by decide +kernel) (by decide +kernel)) (goodIn_sub (fun _ h => List.mem_cons_of_mem _ (List.mem_append_right _ h)) (by decide +kernel))
set_option maxRecDepth 20000 in
theorem gX5_isSame_X3_asks : GoodIn wsX5_isSame (wsV RX5 113 RX3 yX3_asks wsX3_asks) := goodIn_app (goodIn_of _ (by decide +kernel)) ggX5_isSame_X3_asks
set_option maxRecDepth 20000 in
theorem ggX5_isSame_X3_voice : GoodIn wsX5_isSame wsX3_voice := goodIn_ca (goodIn_r _ [69, 25, 26, 27, 70, 71, 35, 36, 23, 37, 72, 73, 74, 75, 76, 77, 78, 79, 80, 81, 133, 134, 135, 136, 137, 138, 139, 154, 155, 156, 157, 158, 159, 160] (by decide +kernel) (by decide +kernel)) (goodIn_sub (fun _ h => List.mem_cons_of_mem _ (List.mem_append_right _ h)) (by decide +kernel))
set_option maxRecDepth 20000 in
theorem gX5_isSame_X3_voice : GoodIn wsX5_isSame (wsV RX5 116 RX3 yX3_voice wsX3_voice) := goodIn_app (goodIn_of _ (by decide +kernel)) ggX5_isSame_X3_voice
set_option maxRecDepth 20000 in
theorem ggX5_isSame_X5_with : GoodIn wsX5_isSame wsX5_with := goodIn_r _ [86, 1, 3, 120, 121, 122, 123, 124, 125, 126, 127, 128, 129, 130, 131, 132] (by decide +kernel) (by decide +kernel)
set_option maxRecDepth 20000 in
theorem gX5_isSame_X5_with : GoodIn wsX5_isSame (wsV RX5 119 RX5 yX5_with wsX5_with) := goodIn_app (goodIn_of _ (by decide +kernel)) ggX5_isSame_X5_with
set_option maxRecDepth 20000 in
theorem ggX5_isSame_X5_open : GoodIn wsX5_isSame wsX5_open := goodIn_r _ [90, 1, 3, 120, 121, 122, 123, 124, 125, 126, 127, 128, 129, 130, 131, 132] (by decide +kernel) (by decide +kernel)
set_option maxRecDepth 20000 in
theorem gX5_isSame_X5_open : GoodIn wsX5_isSame (wsV RX5 100 RX5 yX5_open wsX5_open) := goodIn_app (goodIn_of _ (by decide +kernel)) ggX5_isSame_X5_open
set_option maxRecDepth 20000 in
theorem ggX5_isSame_X3_count : GoodIn wsX5_isSame wsX3_count := goodIn_ca (goodIn_r _ [94, 25, 26, 27, 35, 36, 23, 37, 95, 96, 97, 32, 98, 99, 34, 100, 101, 102, 103, 104, 105, 106, 107, 108, 109, 110, 111, 112, 133, 134, 135, 136, 137, 138, 139, 154, 155, 156, 157, 158, 159, 160, 140, 141, 142, 143, 144, 145, 146, 147, 148, 149, 150, 151, 152, 153] (by decide +kernel) (by decide +kernel)) (goodIn_sub (fun _ h => List.mem_cons_of_mem _ (List.mem_append_right _ h)) (by decide +kernel))
set_option maxRecDepth 20000 in
theorem gX5_isSame_X3_count : GoodIn wsX5_isSame (wsV RX5 122 RX3 yX3_count wsX3_count) := goodIn_app (goodIn_of _ (by decide +kernel)) ggX5_isSame_X3_count
set_option maxRecDepth 20000 in
theorem ggX5_isSame_X3_mean : GoodIn wsX5_isSame wsX3_mean := goodIn_r _ [116, 27, 117, 28, 118, 119, 133, 134, 135, 136, 137, 138, 139, 140, 141, 142, 143, 144, 145, 146, 147, 148, 149, 150, 151, 152, 153] (by decide +kernel) (by decide +kernel)
set_option maxRecDepth 20000 in
theorem gX5_isSame_X3_mean : GoodIn wsX5_isSame (wsV RX5 125 RX3 yX3_mean wsX3_mean) := goodIn_app (goodIn_of _ (by decide +kernel)) ggX5_isSame_X3_mean
theorem dX5_isSame_0 : decode cX5_isSame 0 = .ok (.iconst 0, 1) := by decide +kernel
theorem dX5_isSame_1 : decode cX5_isSame 1 = .ok (.istore_n 2, 1) := by decide +kernel
theorem dX5_isSame_2 : decode cX5_isSame 2 = .ok (.iconst 0, 1) := by decide +kernel
theorem dX5_isSame_3 : decode cX5_isSame 3 = .ok (.istore_n 3, 1) := by decide +kernel
theorem dX5_isSame_4 : decode cX5_isSame 4 = .ok (.iconst 0, 1) := by decide +kernel
theorem dX5_isSame_5 : decode cX5_isSame 5 = .ok (.istore 4, 2) := by decide +kernel
theorem dX5_isSame_7 : decode cX5_isSame 7 = .ok (.iload 4, 2) := by decide +kernel
theorem dX5_isSame_9 : decode cX5_isSame 9 = .ok (.aload_n 0, 1) := by decide +kernel
theorem dX5_isSame_10 : decode cX5_isSame 10 = .ok (.getfield 9, 3) := by decide +kernel
theorem dX5_isSame_13 : decode cX5_isSame 13 = .ok (.arraylength, 1) := by decide +kernel
theorem dX5_isSame_14 : decode cX5_isSame 14 = .ok (.if_icmp .ge 272, 3) := by decide +kernel
theorem dX5_isSame_17 : decode cX5_isSame 17 = .ok (.aload_n 0, 1) := by decide +kernel
theorem dX5_isSame_18 : decode cX5_isSame 18 = .ok (.getfield 9, 3) := by decide +kernel
theorem dX5_isSame_21 : decode cX5_isSame 21 = .ok (.iload 4, 2) := by decide +kernel
theorem dX5_isSame_23 : decode cX5_isSame 23 = .ok (.aaload, 1) := by decide +kernel
theorem dX5_isSame_24 : decode cX5_isSame 24 = .ok (.astore 5, 2) := by decide +kernel
theorem dX5_isSame_26 : decode cX5_isSame 26 = .ok (.bipush 9, 2) := by decide +kernel
theorem dX5_isSame_28 : decode cX5_isSame 28 = .ok (.newarray .int, 2) := by decide +kernel
theorem dX5_isSame_30 : decode cX5_isSame 30 = .ok (.dup, 1) := by decide +kernel
theorem dX5_isSame_31 : decode cX5_isSame 31 = .ok (.iconst 0, 1) := by decide +kernel
theorem dX5_isSame_32 : decode cX5_isSame 32 = .ok (.aload 5, 2) := by decide +kernel
theorem dX5_isSame_34 : decode cX5_isSame 34 = .ok (.getfield 48, 3) := by decide +kernel
theorem dX5_isSame_37 : decode cX5_isSame 37 = .ok (.iastore, 1) := by decide +kernel
theorem dX5_isSame_38 : decode cX5_isSame 38 = .ok (.dup, 1) := by decide +kernel
theorem dX5_isSame_39 : decode cX5_isSame 39 = .ok (.iconst 1, 1) := by decide +kernel
theorem dX5_isSame_40 : decode cX5_isSame 40 = .ok (.aload 5, 2) := by decide +kernel
theorem dX5_isSame_42 : decode cX5_isSame 42 = .ok (.getfield 48, 3) := by decide +kernel
theorem dX5_isSame_45 : decode cX5_isSame 45 = .ok (.ifCond .ne 7, 3) := by decide +kernel
theorem dX5_isSame_48 : decode cX5_isSame 48 = .ok (.iconst 0, 1) := by decide +kernel
theorem dX5_isSame_49 : decode cX5_isSame 49 = .ok (.goto 8, 3) := by decide +kernel
theorem dX5_isSame_52 : decode cX5_isSame 52 = .ok (.aload 5, 2) := by decide +kernel
theorem dX5_isSame_54 : decode cX5_isSame 54 = .ok (.getfield 51, 3) := by decide +kernel
theorem dX5_isSame_57 : decode cX5_isSame 57 = .ok (.iastore, 1) := by decide +kernel
theorem dX5_isSame_58 : decode cX5_isSame 58 = .ok (.dup, 1) := by decide +kernel
theorem dX5_isSame_59 : decode cX5_isSame 59 = .ok (.iconst 2, 1) := by decide +kernel
theorem dX5_isSame_60 : decode cX5_isSame 60 = .ok (.aload 5, 2) := by decide +kernel
theorem dX5_isSame_62 : decode cX5_isSame 62 = .ok (.getfield 38, 3) := by decide +kernel
theorem dX5_isSame_65 : decode cX5_isSame 65 = .ok (.iastore, 1) := by decide +kernel
theorem dX5_isSame_66 : decode cX5_isSame 66 = .ok (.dup, 1) := by decide +kernel
theorem dX5_isSame_67 : decode cX5_isSame 67 = .ok (.iconst 3, 1) := by decide +kernel
theorem dX5_isSame_68 : decode cX5_isSame 68 = .ok (.aload 5, 2) := by decide +kernel
theorem dX5_isSame_70 : decode cX5_isSame 70 = .ok (.getfield 57, 3) := by decide +kernel
theorem dX5_isSame_73 : decode cX5_isSame 73 = .ok (.arraylength, 1) := by decide +kernel
theorem dX5_isSame_74 : decode cX5_isSame 74 = .ok (.iastore, 1) := by decide +kernel
theorem dX5_isSame_75 : decode cX5_isSame 75 = .ok (.dup, 1) := by decide +kernel
theorem dX5_isSame_76 : decode cX5_isSame 76 = .ok (.iconst 4, 1) := by decide +kernel
theorem dX5_isSame_77 : decode cX5_isSame 77 = .ok (.aload 5, 2) := by decide +kernel
theorem dX5_isSame_79 : decode cX5_isSame 79 = .ok (.iconst (-1), 1) := by decide +kernel
theorem dX5_isSame_80 : decode cX5_isSame 80 = .ok (.invokevirtual 82, 3) := by decide +kernel
theorem dX5_isSame_83 : decode cX5_isSame 83 = .ok (.iastore, 1) := by decide +kernel
theorem dX5_isSame_84 : decode cX5_isSame 84 = .ok (.dup, 1) := by decide +kernel
theorem dX5_isSame_85 : decode cX5_isSame 85 = .ok (.iconst 5, 1) := by decide +kernel
theorem dX5_isSame_86 : decode cX5_isSame 86 = .ok (.aload 5, 2) := by decide +kernel
theorem dX5_isSame_88 : decode cX5_isSame 88 = .ok (.iconst 1, 1) := by decide +kernel
theorem dX5_isSame_89 : decode cX5_isSame 89 = .ok (.invokevirtual 82, 3) := by decide +kernel
theorem dX5_isSame_92 : decode cX5_isSame 92 = .ok (.iastore, 1) := by decide +kernel
theorem dX5_isSame_93 : decode cX5_isSame 93 = .ok (.dup, 1) := by decide +kernel
theorem dX5_isSame_94 : decode cX5_isSame 94 = .ok (.bipush 6, 2) := by decide +kernel
theorem dX5_isSame_96 : decode cX5_isSame 96 = .ok (.aload 5, 2) := by decide +kernel
theorem dX5_isSame_98 : decode cX5_isSame 98 = .ok (.getfield 54, 3) := by decide +kernel
theorem dX5_isSame_101 : decode cX5_isSame 101 = .ok (.arraylength, 1) := by decide +kernel
theorem dX5_isSame_102 : decode cX5_isSame 102 = .ok (.iastore, 1) := by decide +kernel
theorem dX5_isSame_103 : decode cX5_isSame 103 = .ok (.dup, 1) := by decide +kernel
theorem dX5_isSame_104 : decode cX5_isSame 104 = .ok (.bipush 7, 2) := by decide +kernel
theorem dX5_isSame_106 : decode cX5_isSame 106 = .ok (.aload 5, 2) := by decide +kernel
theorem dX5_isSame_108 : decode cX5_isSame 108 = .ok (.getfield 64, 3) := by decide +kernel
theorem dX5_isSame_111 : decode cX5_isSame 111 = .ok (.iastore, 1) := by decide +kernel
theorem dX5_isSame_112 : decode cX5_isSame 112 = .ok (.dup, 1) := by decide +kernel
theorem dX5_isSame_113 : decode cX5_isSame 113 = .ok (.bipush 8, 2) := by decide +kernel
theorem dX5_isSame_115 : decode cX5_isSame 115 = .ok (.aload 5, 2) := by decide +kernel
theorem dX5_isSame_117 : decode cX5_isSame 117 = .ok (.getfield 67, 3) := by decide +kernel
theorem dX5_isSame_120 : decode cX5_isSame 120 = .ok (.iastore, 1) := by decide +kernel
theorem dX5_isSame_121 : decode cX5_isSame 121 = .ok (.astore 6, 2) := by decide +kernel
theorem dX5_isSame_123 : decode cX5_isSame 123 = .ok (.iconst 0, 1) := by decide +kernel
theorem dX5_isSame_124 : decode cX5_isSame 124 = .ok (.istore 7, 2) := by decide +kernel
theorem dX5_isSame_126 : decode cX5_isSame 126 = .ok (.iload 7, 2) := by decide +kernel
theorem dX5_isSame_128 : decode cX5_isSame 128 = .ok (.bipush 9, 2) := by decide +kernel
theorem dX5_isSame_130 : decode cX5_isSame 130 = .ok (.if_icmp .ge 27, 3) := by decide +kernel
theorem dX5_isSame_133 : decode cX5_isSame 133 = .ok (.aload_n 1, 1) := by decide +kernel
theorem dX5_isSame_134 : decode cX5_isSame 134 = .ok (.iload 4, 2) := by decide +kernel
theorem dX5_isSame_136 : decode cX5_isSame 136 = .ok (.iload 7, 2) := by decide +kernel
theorem dX5_isSame_138 : decode cX5_isSame 138 = .ok (.invokevirtual 107, 3) := by decide +kernel
theorem dX5_isSame_141 : decode cX5_isSame 141 = .ok (.aload 6, 2) := by decide +kernel
theorem dX5_isSame_143 : decode cX5_isSame 143 = .ok (.iload 7, 2) := by decide +kernel
theorem dX5_isSame_145 : decode cX5_isSame 145 = .ok (.iaload, 1) := by decide +kernel
theorem dX5_isSame_146 : decode cX5_isSame 146 = .ok (.if_icmp .eq 5, 3) := by decide +kernel
theorem dX5_isSame_149 : decode cX5_isSame 149 = .ok (.iconst 0, 1) := by decide +kernel
theorem dX5_isSame_150 : decode cX5_isSame 150 = .ok (.ireturn, 1) := by decide +kernel
theorem dX5_isSame_151 : decode cX5_isSame 151 = .ok (.iinc 7 1, 3) := by decide +kernel
theorem dX5_isSame_154 : decode cX5_isSame 154 = .ok (.goto (-28), 3) := by decide +kernel
theorem dX5_isSame_157 : decode cX5_isSame 157 = .ok (.iconst 0, 1) := by decide +kernel
theorem dX5_isSame_158 : decode cX5_isSame 158 = .ok (.istore 7, 2) := by decide +kernel
theorem dX5_isSame_160 : decode cX5_isSame 160 = .ok (.iload 7, 2) := by decide +kernel
theorem dX5_isSame_162 : decode cX5_isSame 162 = .ok (.aload 5, 2) := by decide +kernel
theorem dX5_isSame_164 : decode cX5_isSame 164 = .ok (.getfield 57, 3) := by decide +kernel
theorem dX5_isSame_167 : decode cX5_isSame 167 = .ok (.arraylength, 1) := by decide +kernel
theorem dX5_isSame_168 : decode cX5_isSame 168 = .ok (.if_icmp .ge 90, 3) := by decide +kernel
theorem dX5_isSame_171 : decode cX5_isSame 171 = .ok (.aload_n 1, 1) := by decide +kernel
theorem dX5_isSame_172 : decode cX5_isSame 172 = .ok (.iload 4, 2) := by decide +kernel
theorem dX5_isSame_174 : decode cX5_isSame 174 = .ok (.iload 7, 2) := by decide +kernel
theorem dX5_isSame_176 : decode cX5_isSame 176 = .ok (.iconst 0, 1) := by decide +kernel
theorem dX5_isSame_177 : decode cX5_isSame 177 = .ok (.invokevirtual 113, 3) := by decide +kernel
theorem dX5_isSame_180 : decode cX5_isSame 180 = .ok (.aload 5, 2) := by decide +kernel
theorem dX5_isSame_182 : decode cX5_isSame 182 = .ok (.getfield 57, 3) := by decide +kernel
theorem dX5_isSame_185 : decode cX5_isSame 185 = .ok (.iload 7, 2) := by decide +kernel
theorem dX5_isSame_187 : decode cX5_isSame 187 = .ok (.aaload, 1) := by decide +kernel
theorem dX5_isSame_188 : decode cX5_isSame 188 = .ok (.iconst 0, 1) := by decide +kernel
theorem dX5_isSame_189 : decode cX5_isSame 189 = .ok (.iaload, 1) := by decide +kernel
theorem dX5_isSame_190 : decode cX5_isSame 190 = .ok (.if_icmp .ne 60, 3) := by decide +kernel
theorem dX5_isSame_193 : decode cX5_isSame 193 = .ok (.aload_n 1, 1) := by decide +kernel
theorem dX5_isSame_194 : decode cX5_isSame 194 = .ok (.iload 4, 2) := by decide +kernel
theorem dX5_isSame_196 : decode cX5_isSame 196 = .ok (.iload 7, 2) := by decide +kernel
theorem dX5_isSame_198 : decode cX5_isSame 198 = .ok (.iconst 1, 1) := by decide +kernel
theorem dX5_isSame_199 : decode cX5_isSame 199 = .ok (.invokevirtual 113, 3) := by decide +kernel
theorem dX5_isSame_202 : decode cX5_isSame 202 = .ok (.aload 5, 2) := by decide +kernel
theorem dX5_isSame_204 : decode cX5_isSame 204 = .ok (.getfield 57, 3) := by decide +kernel
theorem dX5_isSame_207 : decode cX5_isSame 207 = .ok (.iload 7, 2) := by decide +kernel
theorem dX5_isSame_209 : decode cX5_isSame 209 = .ok (.aaload, 1) := by decide +kernel
theorem dX5_isSame_210 : decode cX5_isSame 210 = .ok (.iconst 1, 1) := by decide +kernel
theorem dX5_isSame_211 : decode cX5_isSame 211 = .ok (.iaload, 1) := by decide +kernel
theorem dX5_isSame_212 : decode cX5_isSame 212 = .ok (.if_icmp .ne 38, 3) := by decide +kernel
theorem dX5_isSame_215 : decode cX5_isSame 215 = .ok (.aload_n 1, 1) := by decide +kernel
theorem dX5_isSame_216 : decode cX5_isSame 216 = .ok (.iload 4, 2) := by decide +kernel
theorem dX5_isSame_218 : decode cX5_isSame 218 = .ok (.iload 7, 2) := by decide +kernel
theorem dX5_isSame_220 : decode cX5_isSame 220 = .ok (.iconst 2, 1) := by decide +kernel
theorem dX5_isSame_221 : decode cX5_isSame 221 = .ok (.invokevirtual 113, 3) := by decide +kernel
theorem dX5_isSame_224 : decode cX5_isSame 224 = .ok (.aload 5, 2) := by decide +kernel
theorem dX5_isSame_226 : decode cX5_isSame 226 = .ok (.getfield 48, 3) := by decide +kernel
theorem dX5_isSame_229 : decode cX5_isSame 229 = .ok (.iconst 1, 1) := by decide +kernel
theorem dX5_isSame_230 : decode cX5_isSame 230 = .ok (.if_icmp .ne 16, 3) := by decide +kernel
theorem dX5_isSame_233 : decode cX5_isSame 233 = .ok (.aload 5, 2) := by decide +kernel
theorem dX5_isSame_235 : decode cX5_isSame 235 = .ok (.getfield 57, 3) := by decide +kernel
theorem dX5_isSame_238 : decode cX5_isSame 238 = .ok (.iload 7, 2) := by decide +kernel
theorem dX5_isSame_240 : decode cX5_isSame 240 = .ok (.aaload, 1) := by decide +kernel
theorem dX5_isSame_241 : decode cX5_isSame 241 = .ok (.iconst 2, 1) := by decide +kernel
theorem dX5_isSame_242 : decode cX5_isSame 242 = .ok (.iaload, 1) := by decide +kernel
theorem dX5_isSame_243 : decode cX5_isSame 243 = .ok (.goto 4, 3) := by decide +kernel
theorem dX5_isSame_246 : decode cX5_isSame 246 = .ok (.iconst (-1), 1) := by decide +kernel
theorem dX5_isSame_247 : decode cX5_isSame 247 = .ok (.if_icmp .eq 5, 3) := by decide +kernel
theorem dX5_isSame_250 : decode cX5_isSame 250 = .ok (.iconst 0, 1) := by decide +kernel
theorem dX5_isSame_251 : decode cX5_isSame 251 = .ok (.ireturn, 1) := by decide +kernel
theorem dX5_isSame_252 : decode cX5_isSame 252 = .ok (.iinc 7 1, 3) := by decide +kernel
theorem dX5_isSame_255 : decode cX5_isSame 255 = .ok (.goto (-95), 3) := by decide +kernel
theorem dX5_isSame_258 : decode cX5_isSame 258 = .ok (.iload_n 2, 1) := by decide +kernel
theorem dX5_isSame_259 : decode cX5_isSame 259 = .ok (.aload 5, 2) := by decide +kernel
theorem dX5_isSame_261 : decode cX5_isSame 261 = .ok (.getfield 64, 3) := by decide +kernel
theorem dX5_isSame_264 : decode cX5_isSame 264 = .ok (.iadd, 1) := by decide +kernel
theorem dX5_isSame_265 : decode cX5_isSame 265 = .ok (.istore_n 2, 1) := by decide +kernel
theorem dX5_isSame_266 : decode cX5_isSame 266 = .ok (.iload_n 3, 1) := by decide +kernel
theorem dX5_isSame_267 : decode cX5_isSame 267 = .ok (.aload 5, 2) := by decide +kernel
theorem dX5_isSame_269 : decode cX5_isSame 269 = .ok (.getfield 64, 3) := by decide +kernel
theorem dX5_isSame_272 : decode cX5_isSame 272 = .ok (.aload 5, 2) := by decide +kernel
theorem dX5_isSame_274 : decode cX5_isSame 274 = .ok (.getfield 67, 3) := by decide +kernel
theorem dX5_isSame_277 : decode cX5_isSame 277 = .ok (.iadd, 1) := by decide +kernel
theorem dX5_isSame_278 : decode cX5_isSame 278 = .ok (.iadd, 1) := by decide +kernel
theorem dX5_isSame_279 : decode cX5_isSame 279 = .ok (.istore_n 3, 1) := by decide +kernel
theorem dX5_isSame_280 : decode cX5_isSame 280 = .ok (.iinc 4 1, 3) := by decide +kernel
theorem dX5_isSame_283 : decode cX5_isSame 283 = .ok (.goto (-276), 3) := by decide +kernel
theorem dX5_isSame_286 : decode cX5_isSame 286 = .ok (.iconst 0, 1) := by decide +kernel
theorem dX5_isSame_287 : decode cX5_isSame 287 = .ok (.istore 4, 2) := by decide +kernel
theorem dX5_isSame_289 : decode cX5_isSame 289 = .ok (.iload 4, 2) := by decide +kernel
theorem dX5_isSame_291 : decode cX5_isSame 291 = .ok (.aload_n 0, 1) := by decide +kernel
theorem dX5_isSame_292 : decode cX5_isSame 292 = .ok (.getfield 17, 3) := by decide +kernel
theorem dX5_isSame_295 : decode cX5_isSame 295 = .ok (.arraylength, 1) := by decide +kernel
theorem dX5_isSame_296 : decode cX5_isSame 296 = .ok (.if_icmp .ge 47, 3) := by decide +kernel
theorem dX5_isSame_299 : decode cX5_isSame 299 = .ok (.iconst 0, 1) := by decide +kernel
theorem dX5_isSame_300 : decode cX5_isSame 300 = .ok (.istore 5, 2) := by decide +kernel
theorem dX5_isSame_302 : decode cX5_isSame 302 = .ok (.iload 5, 2) := by decide +kernel
theorem dX5_isSame_304 : decode cX5_isSame 304 = .ok (.iconst 4, 1) := by decide +kernel
theorem dX5_isSame_305 : decode cX5_isSame 305 = .ok (.if_icmp .ge 32, 3) := by decide +kernel
theorem dX5_isSame_308 : decode cX5_isSame 308 = .ok (.aload_n 1, 1) := by decide +kernel
theorem dX5_isSame_309 : decode cX5_isSame 309 = .ok (.iload 4, 2) := by decide +kernel
theorem dX5_isSame_311 : decode cX5_isSame 311 = .ok (.iload 5, 2) := by decide +kernel
theorem dX5_isSame_313 : decode cX5_isSame 313 = .ok (.invokevirtual 116, 3) := by decide +kernel
theorem dX5_isSame_316 : decode cX5_isSame 316 = .ok (.aload_n 0, 1) := by decide +kernel
theorem dX5_isSame_317 : decode cX5_isSame 317 = .ok (.getfield 17, 3) := by decide +kernel
theorem dX5_isSame_320 : decode cX5_isSame 320 = .ok (.iload 4, 2) := by decide +kernel
theorem dX5_isSame_322 : decode cX5_isSame 322 = .ok (.aaload, 1) := by decide +kernel
theorem dX5_isSame_323 : decode cX5_isSame 323 = .ok (.iload 5, 2) := by decide +kernel
theorem dX5_isSame_325 : decode cX5_isSame 325 = .ok (.iaload, 1) := by decide +kernel
theorem dX5_isSame_326 : decode cX5_isSame 326 = .ok (.if_icmp .eq 5, 3) := by decide +kernel
theorem dX5_isSame_329 : decode cX5_isSame 329 = .ok (.iconst 0, 1) := by decide +kernel
theorem dX5_isSame_330 : decode cX5_isSame 330 = .ok (.ireturn, 1) := by decide +kernel
theorem dX5_isSame_331 : decode cX5_isSame 331 = .ok (.iinc 5 1, 3) := by decide +kernel
theorem dX5_isSame_334 : decode cX5_isSame 334 = .ok (.goto (-32), 3) := by decide +kernel
theorem dX5_isSame_337 : decode cX5_isSame 337 = .ok (.iinc 4 1, 3) := by decide +kernel
theorem dX5_isSame_340 : decode cX5_isSame 340 = .ok (.goto (-51), 3) := by decide +kernel
theorem dX5_isSame_343 : decode cX5_isSame 343 = .ok (.bipush 9, 2) := by decide +kernel
theorem dX5_isSame_345 : decode cX5_isSame 345 = .ok (.newarray .int, 2) := by decide +kernel
theorem dX5_isSame_347 : decode cX5_isSame 347 = .ok (.dup, 1) := by decide +kernel
theorem dX5_isSame_348 : decode cX5_isSame 348 = .ok (.iconst 0, 1) := by decide +kernel
theorem dX5_isSame_349 : decode cX5_isSame 349 = .ok (.aload_n 0, 1) := by decide +kernel
theorem dX5_isSame_350 : decode cX5_isSame 350 = .ok (.getfield 86, 3) := by decide +kernel
theorem dX5_isSame_353 : decode cX5_isSame 353 = .ok (.iastore, 1) := by decide +kernel
theorem dX5_isSame_354 : decode cX5_isSame 354 = .ok (.dup, 1) := by decide +kernel
theorem dX5_isSame_355 : decode cX5_isSame 355 = .ok (.iconst 1, 1) := by decide +kernel
theorem dX5_isSame_356 : decode cX5_isSame 356 = .ok (.aload_n 0, 1) := by decide +kernel
theorem dX5_isSame_357 : decode cX5_isSame 357 = .ok (.getfield 9, 3) := by decide +kernel
theorem dX5_isSame_360 : decode cX5_isSame 360 = .ok (.arraylength, 1) := by decide +kernel
theorem dX5_isSame_361 : decode cX5_isSame 361 = .ok (.iastore, 1) := by decide +kernel
theorem dX5_isSame_362 : decode cX5_isSame 362 = .ok (.dup, 1) := by decide +kernel
theorem dX5_isSame_363 : decode cX5_isSame 363 = .ok (.iconst 2, 1) := by decide +kernel
theorem dX5_isSame_364 : decode cX5_isSame 364 = .ok (.aload_n 0, 1) := by decide +kernel
theorem dX5_isSame_365 : decode cX5_isSame 365 = .ok (.iconst 0, 1) := by decide +kernel
theorem dX5_isSame_366 : decode cX5_isSame 366 = .ok (.invokevirtual 119, 3) := by decide +kernel
theorem dX5_isSame_369 : decode cX5_isSame 369 = .ok (.iastore, 1) := by decide +kernel
theorem dX5_isSame_370 : decode cX5_isSame 370 = .ok (.dup, 1) := by decide +kernel
theorem dX5_isSame_371 : decode cX5_isSame 371 = .ok (.iconst 3, 1) := by decide +kernel
theorem dX5_isSame_372 : decode cX5_isSame 372 = .ok (.aload_n 0, 1) := by decide +kernel
theorem dX5_isSame_373 : decode cX5_isSame 373 = .ok (.iconst 1, 1) := by decide +kernel
theorem dX5_isSame_374 : decode cX5_isSame 374 = .ok (.invokevirtual 119, 3) := by decide +kernel
theorem dX5_isSame_377 : decode cX5_isSame 377 = .ok (.iastore, 1) := by decide +kernel
theorem dX5_isSame_378 : decode cX5_isSame 378 = .ok (.dup, 1) := by decide +kernel
theorem dX5_isSame_379 : decode cX5_isSame 379 = .ok (.iconst 4, 1) := by decide +kernel
theorem dX5_isSame_380 : decode cX5_isSame 380 = .ok (.aload_n 0, 1) := by decide +kernel
theorem dX5_isSame_381 : decode cX5_isSame 381 = .ok (.iconst 2, 1) := by decide +kernel
theorem dX5_isSame_382 : decode cX5_isSame 382 = .ok (.invokevirtual 119, 3) := by decide +kernel
theorem dX5_isSame_385 : decode cX5_isSame 385 = .ok (.iastore, 1) := by decide +kernel
theorem dX5_isSame_386 : decode cX5_isSame 386 = .ok (.dup, 1) := by decide +kernel
theorem dX5_isSame_387 : decode cX5_isSame 387 = .ok (.iconst 5, 1) := by decide +kernel
theorem dX5_isSame_388 : decode cX5_isSame 388 = .ok (.aload_n 0, 1) := by decide +kernel
theorem dX5_isSame_389 : decode cX5_isSame 389 = .ok (.iconst 3, 1) := by decide +kernel
theorem dX5_isSame_390 : decode cX5_isSame 390 = .ok (.invokevirtual 119, 3) := by decide +kernel
theorem dX5_isSame_393 : decode cX5_isSame 393 = .ok (.iastore, 1) := by decide +kernel
theorem dX5_isSame_394 : decode cX5_isSame 394 = .ok (.dup, 1) := by decide +kernel
theorem dX5_isSame_395 : decode cX5_isSame 395 = .ok (.bipush 6, 2) := by decide +kernel
theorem dX5_isSame_397 : decode cX5_isSame 397 = .ok (.aload_n 0, 1) := by decide +kernel
theorem dX5_isSame_398 : decode cX5_isSame 398 = .ok (.getfield 17, 3) := by decide +kernel
theorem dX5_isSame_401 : decode cX5_isSame 401 = .ok (.arraylength, 1) := by decide +kernel
theorem dX5_isSame_402 : decode cX5_isSame 402 = .ok (.iastore, 1) := by decide +kernel
theorem dX5_isSame_403 : decode cX5_isSame 403 = .ok (.dup, 1) := by decide +kernel
theorem dX5_isSame_404 : decode cX5_isSame 404 = .ok (.bipush 7, 2) := by decide +kernel
theorem dX5_isSame_406 : decode cX5_isSame 406 = .ok (.aload_n 0, 1) := by decide +kernel
theorem dX5_isSame_407 : decode cX5_isSame 407 = .ok (.getfield 45, 3) := by decide +kernel
theorem dX5_isSame_410 : decode cX5_isSame 410 = .ok (.iastore, 1) := by decide +kernel
theorem dX5_isSame_411 : decode cX5_isSame 411 = .ok (.dup, 1) := by decide +kernel
theorem dX5_isSame_412 : decode cX5_isSame 412 = .ok (.bipush 8, 2) := by decide +kernel
theorem dX5_isSame_414 : decode cX5_isSame 414 = .ok (.aload_n 0, 1) := by decide +kernel
theorem dX5_isSame_415 : decode cX5_isSame 415 = .ok (.invokevirtual 100, 3) := by decide +kernel
theorem dX5_isSame_418 : decode cX5_isSame 418 = .ok (.iastore, 1) := by decide +kernel
theorem dX5_isSame_419 : decode cX5_isSame 419 = .ok (.astore 4, 2) := by decide +kernel
theorem dX5_isSame_421 : decode cX5_isSame 421 = .ok (.iconst 0, 1) := by decide +kernel
theorem dX5_isSame_422 : decode cX5_isSame 422 = .ok (.istore 5, 2) := by decide +kernel
theorem dX5_isSame_424 : decode cX5_isSame 424 = .ok (.iload 5, 2) := by decide +kernel
theorem dX5_isSame_426 : decode cX5_isSame 426 = .ok (.bipush 9, 2) := by decide +kernel
theorem dX5_isSame_428 : decode cX5_isSame 428 = .ok (.if_icmp .ge 25, 3) := by decide +kernel
theorem dX5_isSame_431 : decode cX5_isSame 431 = .ok (.aload_n 1, 1) := by decide +kernel
theorem dX5_isSame_432 : decode cX5_isSame 432 = .ok (.iload 5, 2) := by decide +kernel
theorem dX5_isSame_434 : decode cX5_isSame 434 = .ok (.invokevirtual 122, 3) := by decide +kernel
theorem dX5_isSame_437 : decode cX5_isSame 437 = .ok (.aload 4, 2) := by decide +kernel
theorem dX5_isSame_439 : decode cX5_isSame 439 = .ok (.iload 5, 2) := by decide +kernel
theorem dX5_isSame_441 : decode cX5_isSame 441 = .ok (.iaload, 1) := by decide +kernel
theorem dX5_isSame_442 : decode cX5_isSame 442 = .ok (.if_icmp .eq 5, 3) := by decide +kernel
theorem dX5_isSame_445 : decode cX5_isSame 445 = .ok (.iconst 0, 1) := by decide +kernel
theorem dX5_isSame_446 : decode cX5_isSame 446 = .ok (.ireturn, 1) := by decide +kernel
theorem dX5_isSame_447 : decode cX5_isSame 447 = .ok (.iinc 5 1, 3) := by decide +kernel
theorem dX5_isSame_450 : decode cX5_isSame 450 = .ok (.goto (-26), 3) := by decide +kernel
theorem dX5_isSame_453 : decode cX5_isSame 453 = .ok (.aload_n 1, 1) := by decide +kernel
theorem dX5_isSame_454 : decode cX5_isSame 454 = .ok (.invokevirtual 125, 3) := by decide +kernel
theorem dX5_isSame_457 : decode cX5_isSame 457 = .ok (.iload_n 3, 1) := by decide +kernel
theorem dX5_isSame_458 : decode cX5_isSame 458 = .ok (.ifCond .ne 7, 3) := by decide +kernel
theorem dX5_isSame_461 : decode cX5_isSame 461 = .ok (.dconst 0, 1) := by decide +kernel
theorem dX5_isSame_462 : decode cX5_isSame 462 = .ok (.goto 8, 3) := by decide +kernel
theorem dX5_isSame_465 : decode cX5_isSame 465 = .ok (.iload_n 2, 1) := by decide +kernel
theorem dX5_isSame_466 : decode cX5_isSame 466 = .ok (.i2d, 1) := by decide +kernel
theorem dX5_isSame_467 : decode cX5_isSame 467 = .ok (.iload_n 3, 1) := by decide +kernel
theorem dX5_isSame_468 : decode cX5_isSame 468 = .ok (.i2d, 1) := by decide +kernel
theorem dX5_isSame_469 : decode cX5_isSame 469 = .ok (.ddiv, 1) := by decide +kernel
theorem dX5_isSame_470 : decode cX5_isSame 470 = .ok (.dcmp .l, 1) := by decide +kernel
theorem dX5_isSame_471 : decode cX5_isSame 471 = .ok (.ifCond .ne 7, 3) := by decide +kernel
theorem dX5_isSame_474 : decode cX5_isSame 474 = .ok (.iconst 1, 1) := by decide +kernel
theorem dX5_isSame_475 : decode cX5_isSame 475 = .ok (.goto 4, 3) := by decide +kernel
theorem dX5_isSame_478 : decode cX5_isSame 478 = .ok (.iconst 0, 1) := by decide +kernel
theorem dX5_isSame_479 : decode cX5_isSame 479 = .ok (.ireturn, 1) := by decide +kernel
theorem dL_below_0 : decode cL_below 0 = .ok (.iload_n 0, 1) := by decide +kernel
theorem dL_below_1 : decode cL_below 1 = .ok (.ldc 7, 2) := by decide +kernel
theorem dL_below_3 : decode cL_below 3 = .ok (.iand, 1) := by decide +kernel
theorem dL_below_4 : decode cL_below 4 = .ok (.iload_n 1, 1) := by decide +kernel
theorem dL_below_5 : decode cL_below 5 = .ok (.irem, 1) := by decide +kernel
theorem dL_below_6 : decode cL_below 6 = .ok (.ireturn, 1) := by decide +kernel
theorem dL_cell_0 : decode cL_cell 0 = .ok (.iload_n 1, 1) := by decide +kernel
theorem dL_cell_1 : decode cL_cell 1 = .ok (.aload_n 0, 1) := by decide +kernel
theorem dL_cell_2 : decode cL_cell 2 = .ok (.arraylength, 1) := by decide +kernel
theorem dL_cell_3 : decode cL_cell 3 = .ok (.if_icmp .ge 9, 3) := by decide +kernel
theorem dL_cell_6 : decode cL_cell 6 = .ok (.aload_n 0, 1) := by decide +kernel
theorem dL_cell_7 : decode cL_cell 7 = .ok (.iload_n 1, 1) := by decide +kernel
theorem dL_cell_8 : decode cL_cell 8 = .ok (.iaload, 1) := by decide +kernel
theorem dL_cell_9 : decode cL_cell 9 = .ok (.goto 9, 3) := by decide +kernel
theorem dL_cell_12 : decode cL_cell 12 = .ok (.ldc 8, 2) := by decide +kernel
theorem dL_cell_14 : decode cL_cell 14 = .ok (.iload_n 1, 1) := by decide +kernel
theorem dL_cell_15 : decode cL_cell 15 = .ok (.iconst 3, 1) := by decide +kernel
theorem dL_cell_16 : decode cL_cell 16 = .ok (.iadd, 1) := by decide +kernel
theorem dL_cell_17 : decode cL_cell 17 = .ok (.imul, 1) := by decide +kernel
theorem dL_cell_18 : decode cL_cell 18 = .ok (.ireturn, 1) := by decide +kernel
set_option maxRecDepth 20000 in
theorem ggL_build_X5_init : GoodIn wsL_build wsX5_init := goodIn_r _ [5, 6, 7, 8, 9, 10, 11, 12, 103, 104, 105, 106] (by decide +kernel) (by decide +kernel)
set_option maxRecDepth 20000 in
theorem gL_build_X5_init_n11 : GoodIn wsL_build (wsX5_init) := ggL_build_X5_init
set_option maxRecDepth 20000 in
theorem ggL_build_L_cell : GoodIn wsL_build wsL_cell := goodIn_r _ [16, 17] (by decide +kernel) (by decide +kernel)
set_option maxRecDepth 20000 in
theorem gL_build_L_cell : GoodIn wsL_build (va_wsS RL 12 yL_cell wsL_cell) := goodIn_app (goodIn_of _ (by decide +kernel)) ggL_build_L_cell
set_option maxRecDepth 20000 in
theorem ggL_build_L_below : GoodIn wsL_build wsL_below := goodIn_r _ [20, 21] (by decide +kernel) (by decide +kernel)
set_option maxRecDepth 20000 in
theorem gL_build_L_below : GoodIn wsL_build (va_wsS RL 18 yL_below wsL_below) := goodIn_app (goodIn_of _ (by decide +kernel)) ggL_build_L_below
set_option maxRecDepth 20000 in
theorem ggL_build_X3_build : GoodIn wsL_build wsX3_build := goodIn_ca (goodIn_ca (goodIn_r _ [26, 27, 28, 29, 30, 31, 32, 33, 34, 25, 35, 36, 37, 38, 39, 40, 41, 42, 43, 44, 45, 46, 47, 48, 49, 50, 51, 107, 108, 109, 110, 111, 112, 113, 114, 115, 116, 117, 118, 119, 120, 121, 122, 123, 124, 125, 126, 127] (by decide +kernel) (by decide +kernel)) (goodIn_sub (fun _ h => List.mem_cons_of_mem _ (List.mem_append_left _ (List.mem_append_left _ (List.mem_append_right _ h)))) (by decide +kernel))) (goodIn_sub (fun _ h => List.mem_cons_of_mem _ (List.mem_append_left _ (List.mem_append_right _ h))) (by decide +kernel))
set_option maxRecDepth 20000 in
theorem gL_build_X3_build : GoodIn wsL_build (wsV RL 22 RX3 yX3_build wsX3_build) := goodIn_app (goodIn_of _ (by decide +kernel)) ggL_build_X3_build
set_option maxRecDepth 20000 in
theorem ggL_build_X5_build : GoodIn wsL_build wsX5_build := goodIn_r _ [55, 10, 9, 56, 57, 58, 59, 60, 61, 62, 63, 7, 8, 64, 65, 66, 103, 104, 105, 106, 128, 129, 130, 131, 132, 133, 134, 135, 136] (by decide +kernel) (by decide +kernel)
