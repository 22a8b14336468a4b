theorem dX4_fitsBefore_59 : decode cX4_fitsBefore 59 = .ok (.getfield 47, 3) := by decide +kernel
theorem dX4_fitsBefore_62 : decode cX4_fitsBefore 62 = .ok (.iload_n 3, 1) := by decide +kernel
theorem dX4_fitsBefore_63 : decode cX4_fitsBefore 63 = .ok (.iaload, 1) := by decide +kernel
theorem dX4_fitsBefore_64 : decode cX4_fitsBefore 64 = .ok (.invokevirtual 110, 3) := by decide +kernel
theorem dX4_fitsBefore_67 : decode cX4_fitsBefore 67 = .ok (.ifCond .eq 7, 3) := by decide +kernel
theorem dX4_fitsBefore_70 : decode cX4_fitsBefore 70 = .ok (.iconst 1, 1) := by decide +kernel
theorem dX4_fitsBefore_71 : decode cX4_fitsBefore 71 = .ok (.goto 4, 3) := by decide +kernel
theorem dX4_fitsBefore_74 : decode cX4_fitsBefore 74 = .ok (.iconst 0, 1) := by decide +kernel
theorem dX4_fitsBefore_75 : decode cX4_fitsBefore 75 = .ok (.istore_n 2, 1) := by decide +kernel
theorem dX4_fitsBefore_76 : decode cX4_fitsBefore 76 = .ok (.iinc 3 1, 3) := by decide +kernel
theorem dX4_fitsBefore_79 : decode cX4_fitsBefore 79 = .ok (.goto (-60), 3) := by decide +kernel
theorem dX4_fitsBefore_82 : decode cX4_fitsBefore 82 = .ok (.iload_n 2, 1) := by decide +kernel
theorem dX4_fitsBefore_83 : decode cX4_fitsBefore 83 = .ok (.ireturn, 1) := by decide +kernel
set_option maxRecDepth 20000 in
theorem ggX4_plan_X4_look : GoodIn wsX4_plan wsX4_look := goodIn_r _ [13, 7, 2, 14, 4, 6, 15, 16, 17, 12, 18, 19, 20, 21, 22, 23, 24, 25, 26, 27, 28, 29, 30, 31, 32, 33, 34, 35, 36, 37, 38, 54, 55, 56, 57, 58, 59, 60, 61, 62, 63, 64, 65, 66, 67, 68, 69, 70, 71, 72, 73, 74, 75, 76, 77, 78] (by decide +kernel) (by decide +kernel)
set_option maxRecDepth 20000 in
theorem gX4_plan_X4_look : GoodIn wsX4_plan (wsV RX4 132 RX4 yX4_look wsX4_look) := goodIn_app (goodIn_of _ (by decide +kernel)) ggX4_plan_X4_look
set_option maxRecDepth 20000 in
theorem ggX4_plan_X4_fitsBefore : GoodIn wsX4_plan wsX4_fitsBefore := goodIn_r _ [42, 14, 1, 43, 44, 45, 12, 46, 47, 24, 25, 26, 27, 21, 28, 48, 49, 50, 51, 52, 53, 54, 55, 56, 57, 58, 59, 60, 61, 62, 63, 64, 65, 66, 67, 68, 69, 70, 71, 72, 73, 74, 75, 76, 77, 78] (by decide +kernel) (by decide +kernel)
set_option maxRecDepth 20000 in
theorem gX4_plan_X4_fitsBefore : GoodIn wsX4_plan (wsV RX4 135 RX4 yX4_fitsBefore wsX4_fitsBefore) := goodIn_app (goodIn_of _ (by decide +kernel)) ggX4_plan_X4_fitsBefore
theorem dX4_plan_0 : decode cX4_plan 0 = .ok (.aload_n 0, 1) := by decide +kernel
theorem dX4_plan_1 : decode cX4_plan 1 = .ok (.invokevirtual 132, 3) := by decide +kernel
theorem dX4_plan_4 : decode cX4_plan 4 = .ok (.bipush (-100), 2) := by decide +kernel
theorem dX4_plan_6 : decode cX4_plan 6 = .ok (.istore_n 3, 1) := by decide +kernel
theorem dX4_plan_7 : decode cX4_plan 7 = .ok (.iconst 0, 1) := by decide +kernel
theorem dX4_plan_8 : decode cX4_plan 8 = .ok (.istore 4, 2) := by decide +kernel
theorem dX4_plan_10 : decode cX4_plan 10 = .ok (.iconst 0, 1) := by decide +kernel
theorem dX4_plan_11 : decode cX4_plan 11 = .ok (.istore 5, 2) := by decide +kernel
theorem dX4_plan_13 : decode cX4_plan 13 = .ok (.aload_n 0, 1) := by decide +kernel
theorem dX4_plan_14 : decode cX4_plan 14 = .ok (.getfield 47, 3) := by decide +kernel
theorem dX4_plan_17 : decode cX4_plan 17 = .ok (.iconst 0, 1) := by decide +kernel
theorem dX4_plan_18 : decode cX4_plan 18 = .ok (.iconst (-1), 1) := by decide +kernel
theorem dX4_plan_19 : decode cX4_plan 19 = .ok (.iastore, 1) := by decide +kernel
theorem dX4_plan_20 : decode cX4_plan 20 = .ok (.iload 5, 2) := by decide +kernel
theorem dX4_plan_22 : decode cX4_plan 22 = .ok (.ifCond .lt 298, 3) := by decide +kernel
theorem dX4_plan_25 : decode cX4_plan 25 = .ok (.aload_n 0, 1) := by decide +kernel
theorem dX4_plan_26 : decode cX4_plan 26 = .ok (.getfield 47, 3) := by decide +kernel
theorem dX4_plan_29 : decode cX4_plan 29 = .ok (.iload 5, 2) := by decide +kernel
theorem dX4_plan_31 : decode cX4_plan 31 = .ok (.dup2, 1) := by decide +kernel
theorem dX4_plan_32 : decode cX4_plan 32 = .ok (.iaload, 1) := by decide +kernel
theorem dX4_plan_33 : decode cX4_plan 33 = .ok (.iconst 1, 1) := by decide +kernel
theorem dX4_plan_34 : decode cX4_plan 34 = .ok (.iadd, 1) := by decide +kernel
theorem dX4_plan_35 : decode cX4_plan 35 = .ok (.iastore, 1) := by decide +kernel
theorem dX4_plan_36 : decode cX4_plan 36 = .ok (.aload_n 0, 1) := by decide +kernel
theorem dX4_plan_37 : decode cX4_plan 37 = .ok (.getfield 47, 3) := by decide +kernel
theorem dX4_plan_40 : decode cX4_plan 40 = .ok (.iload 5, 2) := by decide +kernel
theorem dX4_plan_42 : decode cX4_plan 42 = .ok (.iaload, 1) := by decide +kernel
theorem dX4_plan_43 : decode cX4_plan 43 = .ok (.aload_n 0, 1) := by decide +kernel
theorem dX4_plan_44 : decode cX4_plan 44 = .ok (.getfield 74, 3) := by decide +kernel
theorem dX4_plan_47 : decode cX4_plan 47 = .ok (.if_icmp .lt 9, 3) := by decide +kernel
theorem dX4_plan_50 : decode cX4_plan 50 = .ok (.iinc 5 (-1), 3) := by decide +kernel
theorem dX4_plan_53 : decode cX4_plan 53 = .ok (.goto (-33), 3) := by decide +kernel
theorem dX4_plan_56 : decode cX4_plan 56 = .ok (.aload_n 0, 1) := by decide +kernel
theorem dX4_plan_57 : decode cX4_plan 57 = .ok (.iload 5, 2) := by decide +kernel
theorem dX4_plan_59 : decode cX4_plan 59 = .ok (.invokevirtual 135, 3) := by decide +kernel
theorem dX4_plan_62 : decode cX4_plan 62 = .ok (.ifCond .eq (-42), 3) := by decide +kernel
theorem dX4_plan_65 : decode cX4_plan 65 = .ok (.iload 5, 2) := by decide +kernel
theorem dX4_plan_67 : decode cX4_plan 67 = .ok (.iload_n 1, 1) := by decide +kernel
theorem dX4_plan_68 : decode cX4_plan 68 = .ok (.if_icmp .ne 14, 3) := by decide +kernel
theorem dX4_plan_71 : decode cX4_plan 71 = .ok (.aload_n 0, 1) := by decide +kernel
theorem dX4_plan_72 : decode cX4_plan 72 = .ok (.getfield 47, 3) := by decide +kernel
theorem dX4_plan_75 : decode cX4_plan 75 = .ok (.iload 5, 2) := by decide +kernel
theorem dX4_plan_77 : decode cX4_plan 77 = .ok (.iaload, 1) := by decide +kernel
theorem dX4_plan_78 : decode cX4_plan 78 = .ok (.iload_n 2, 1) := by decide +kernel
theorem dX4_plan_79 : decode cX4_plan 79 = .ok (.if_icmp .lt (-59), 3) := by decide +kernel
theorem dX4_plan_82 : decode cX4_plan 82 = .ok (.aload_n 0, 1) := by decide +kernel
theorem dX4_plan_83 : decode cX4_plan 83 = .ok (.getfield 53, 3) := by decide +kernel
theorem dX4_plan_86 : decode cX4_plan 86 = .ok (.iload 5, 2) := by decide +kernel
theorem dX4_plan_88 : decode cX4_plan 88 = .ok (.iload 5, 2) := by decide +kernel
theorem dX4_plan_90 : decode cX4_plan 90 = .ok (.ifCond .le 15, 3) := by decide +kernel
theorem dX4_plan_93 : decode cX4_plan 93 = .ok (.aload_n 0, 1) := by decide +kernel
theorem dX4_plan_94 : decode cX4_plan 94 = .ok (.getfield 53, 3) := by decide +kernel
theorem dX4_plan_97 : decode cX4_plan 97 = .ok (.iload 5, 2) := by decide +kernel
theorem dX4_plan_99 : decode cX4_plan 99 = .ok (.iconst 1, 1) := by decide +kernel
theorem dX4_plan_100 : decode cX4_plan 100 = .ok (.isub, 1) := by decide +kernel
theorem dX4_plan_101 : decode cX4_plan 101 = .ok (.iaload, 1) := by decide +kernel
theorem dX4_plan_102 : decode cX4_plan 102 = .ok (.goto 4, 3) := by decide +kernel
theorem dX4_plan_105 : decode cX4_plan 105 = .ok (.iconst 0, 1) := by decide +kernel
theorem dX4_plan_106 : decode cX4_plan 106 = .ok (.iload_n 1, 1) := by decide +kernel
theorem dX4_plan_107 : decode cX4_plan 107 = .ok (.bipush (-100), 2) := by decide +kernel
theorem dX4_plan_109 : decode cX4_plan 109 = .ok (.if_icmp .eq 30, 3) := by decide +kernel
theorem dX4_plan_112 : decode cX4_plan 112 = .ok (.iload 5, 2) := by decide +kernel
theorem dX4_plan_114 : decode cX4_plan 114 = .ok (.iload_n 1, 1) := by decide +kernel
theorem dX4_plan_115 : decode cX4_plan 115 = .ok (.if_icmp .eq 24, 3) := by decide +kernel
theorem dX4_plan_118 : decode cX4_plan 118 = .ok (.aload_n 0, 1) := by decide +kernel
theorem dX4_plan_119 : decode cX4_plan 119 = .ok (.getfield 47, 3) := by decide +kernel
theorem dX4_plan_122 : decode cX4_plan 122 = .ok (.iload 5, 2) := by decide +kernel
theorem dX4_plan_124 : decode cX4_plan 124 = .ok (.iaload, 1) := by decide +kernel
theorem dX4_plan_125 : decode cX4_plan 125 = .ok (.aload_n 0, 1) := by decide +kernel
theorem dX4_plan_126 : decode cX4_plan 126 = .ok (.getfield 44, 3) := by decide +kernel
theorem dX4_plan_129 : decode cX4_plan 129 = .ok (.iload 5, 2) := by decide +kernel
theorem dX4_plan_131 : decode cX4_plan 131 = .ok (.iaload, 1) := by decide +kernel
theorem dX4_plan_132 : decode cX4_plan 132 = .ok (.if_icmp .eq 7, 3) := by decide +kernel
theorem dX4_plan_135 : decode cX4_plan 135 = .ok (.iconst 1, 1) := by decide +kernel
theorem dX4_plan_136 : decode cX4_plan 136 = .ok (.goto 4, 3) := by decide +kernel
theorem dX4_plan_139 : decode cX4_plan 139 = .ok (.iconst 0, 1) := by decide +kernel
theorem dX4_plan_140 : decode cX4_plan 140 = .ok (.iadd, 1) := by decide +kernel
theorem dX4_plan_141 : decode cX4_plan 141 = .ok (.iastore, 1) := by decide +kernel
theorem dX4_plan_142 : decode cX4_plan 142 = .ok (.aload_n 0, 1) := by decide +kernel
theorem dX4_plan_143 : decode cX4_plan 143 = .ok (.getfield 56, 3) := by decide +kernel
theorem dX4_plan_146 : decode cX4_plan 146 = .ok (.iload 5, 2) := by decide +kernel
theorem dX4_plan_148 : decode cX4_plan 148 = .ok (.iload 5, 2) := by decide +kernel
theorem dX4_plan_150 : decode cX4_plan 150 = .ok (.ifCond .le 15, 3) := by decide +kernel
theorem dX4_plan_153 : decode cX4_plan 153 = .ok (.aload_n 0, 1) := by decide +kernel
theorem dX4_plan_154 : decode cX4_plan 154 = .ok (.getfield 56, 3) := by decide +kernel
theorem dX4_plan_157 : decode cX4_plan 157 = .ok (.iload 5, 2) := by decide +kernel
theorem dX4_plan_159 : decode cX4_plan 159 = .ok (.iconst 1, 1) := by decide +kernel
theorem dX4_plan_160 : decode cX4_plan 160 = .ok (.isub, 1) := by decide +kernel
theorem dX4_plan_161 : decode cX4_plan 161 = .ok (.iaload, 1) := by decide +kernel
theorem dX4_plan_162 : decode cX4_plan 162 = .ok (.goto 4, 3) := by decide +kernel
theorem dX4_plan_165 : decode cX4_plan 165 = .ok (.iconst 0, 1) := by decide +kernel
theorem dX4_plan_166 : decode cX4_plan 166 = .ok (.aload_n 0, 1) := by decide +kernel
theorem dX4_plan_167 : decode cX4_plan 167 = .ok (.getfield 62, 3) := by decide +kernel
theorem dX4_plan_170 : decode cX4_plan 170 = .ok (.bipush 36, 2) := by decide +kernel
theorem dX4_plan_172 : decode cX4_plan 172 = .ok (.iload 5, 2) := by decide +kernel
theorem dX4_plan_174 : decode cX4_plan 174 = .ok (.imul, 1) := by decide +kernel
theorem dX4_plan_175 : decode cX4_plan 175 = .ok (.aload_n 0, 1) := by decide +kernel
theorem dX4_plan_176 : decode cX4_plan 176 = .ok (.getfield 47, 3) := by decide +kernel
theorem dX4_plan_179 : decode cX4_plan 179 = .ok (.iload 5, 2) := by decide +kernel
theorem dX4_plan_181 : decode cX4_plan 181 = .ok (.iaload, 1) := by decide +kernel
theorem dX4_plan_182 : decode cX4_plan 182 = .ok (.iadd, 1) := by decide +kernel
theorem dX4_plan_183 : decode cX4_plan 183 = .ok (.iaload, 1) := by decide +kernel
theorem dX4_plan_184 : decode cX4_plan 184 = .ok (.iadd, 1) := by decide +kernel
theorem dX4_plan_185 : decode cX4_plan 185 = .ok (.iastore, 1) := by decide +kernel
theorem dX4_plan_186 : decode cX4_plan 186 = .ok (.iload_n 3, 1) := by decide +kernel
theorem dX4_plan_187 : decode cX4_plan 187 = .ok (.bipush (-100), 2) := by decide +kernel
theorem dX4_plan_189 : decode cX4_plan 189 = .ok (.if_icmp .eq 37, 3) := by decide +kernel
theorem dX4_plan_192 : decode cX4_plan 192 = .ok (.aload_n 0, 1) := by decide +kernel
theorem dX4_plan_193 : decode cX4_plan 193 = .ok (.getfield 53, 3) := by decide +kernel
theorem dX4_plan_196 : decode cX4_plan 196 = .ok (.iload 5, 2) := by decide +kernel
theorem dX4_plan_198 : decode cX4_plan 198 = .ok (.iaload, 1) := by decide +kernel
theorem dX4_plan_199 : decode cX4_plan 199 = .ok (.iload_n 3, 1) := by decide +kernel
theorem dX4_plan_200 : decode cX4_plan 200 = .ok (.if_icmp .lt 26, 3) := by decide +kernel
theorem dX4_plan_203 : decode cX4_plan 203 = .ok (.aload_n 0, 1) := by decide +kernel
theorem dX4_plan_204 : decode cX4_plan 204 = .ok (.getfield 53, 3) := by decide +kernel
theorem dX4_plan_207 : decode cX4_plan 207 = .ok (.iload 5, 2) := by decide +kernel
theorem dX4_plan_209 : decode cX4_plan 209 = .ok (.iaload, 1) := by decide +kernel
theorem dX4_plan_210 : decode cX4_plan 210 = .ok (.iload_n 3, 1) := by decide +kernel
theorem dX4_plan_211 : decode cX4_plan 211 = .ok (.if_icmp .ne 19, 3) := by decide +kernel
theorem dX4_plan_214 : decode cX4_plan 214 = .ok (.aload_n 0, 1) := by decide +kernel
theorem dX4_plan_215 : decode cX4_plan 215 = .ok (.getfield 56, 3) := by decide +kernel
theorem dX4_plan_218 : decode cX4_plan 218 = .ok (.iload 5, 2) := by decide +kernel
theorem dX4_plan_220 : decode cX4_plan 220 = .ok (.iaload, 1) := by decide +kernel
theorem dX4_plan_221 : decode cX4_plan 221 = .ok (.iload 4, 2) := by decide +kernel
theorem dX4_plan_223 : decode cX4_plan 223 = .ok (.if_icmp .ge 7, 3) := by decide +kernel
theorem dX4_plan_226 : decode cX4_plan 226 = .ok (.iconst 1, 1) := by decide +kernel
theorem dX4_plan_227 : decode cX4_plan 227 = .ok (.goto 4, 3) := by decide +kernel
theorem dX4_plan_230 : decode cX4_plan 230 = .ok (.iconst 0, 1) := by decide +kernel
theorem dX4_plan_231 : decode cX4_plan 231 = .ok (.istore 6, 2) := by decide +kernel
theorem dX4_plan_233 : decode cX4_plan 233 = .ok (.iload 6, 2) := by decide +kernel
theorem dX4_plan_235 : decode cX4_plan 235 = .ok (.ifCond .eq 28, 3) := by decide +kernel
theorem dX4_plan_238 : decode cX4_plan 238 = .ok (.iload 5, 2) := by decide +kernel
theorem dX4_plan_240 : decode cX4_plan 240 = .ok (.iconst 1, 1) := by decide +kernel
theorem dX4_plan_241 : decode cX4_plan 241 = .ok (.iadd, 1) := by decide +kernel
theorem dX4_plan_242 : decode cX4_plan 242 = .ok (.aload_n 0, 1) := by decide +kernel
theorem dX4_plan_243 : decode cX4_plan 243 = .ok (.getfield 78, 3) := by decide +kernel
theorem dX4_plan_246 : decode cX4_plan 246 = .ok (.if_icmp .ge 17, 3) := by decide +kernel
theorem dX4_plan_249 : decode cX4_plan 249 = .ok (.iinc 5 1, 3) := by decide +kernel
theorem dX4_plan_252 : decode cX4_plan 252 = .ok (.aload_n 0, 1) := by decide +kernel
theorem dX4_plan_253 : decode cX4_plan 253 = .ok (.getfield 47, 3) := by decide +kernel
theorem dX4_plan_256 : decode cX4_plan 256 = .ok (.iload 5, 2) := by decide +kernel
theorem dX4_plan_258 : decode cX4_plan 258 = .ok (.iconst (-1), 1) := by decide +kernel
theorem dX4_plan_259 : decode cX4_plan 259 = .ok (.iastore, 1) := by decide +kernel
theorem dX4_plan_260 : decode cX4_plan 260 = .ok (.goto 57, 3) := by decide +kernel
theorem dX4_plan_263 : decode cX4_plan 263 = .ok (.iload 6, 2) := by decide +kernel
theorem dX4_plan_265 : decode cX4_plan 265 = .ok (.ifCond .eq 52, 3) := by decide +kernel
theorem dX4_plan_268 : decode cX4_plan 268 = .ok (.aload_n 0, 1) := by decide +kernel
theorem dX4_plan_269 : decode cX4_plan 269 = .ok (.getfield 53, 3) := by decide +kernel
theorem dX4_plan_272 : decode cX4_plan 272 = .ok (.iload 5, 2) := by decide +kernel
theorem dX4_plan_274 : decode cX4_plan 274 = .ok (.iaload, 1) := by decide +kernel
theorem dX4_plan_275 : decode cX4_plan 275 = .ok (.istore_n 3, 1) := by decide +kernel
theorem dX4_plan_276 : decode cX4_plan 276 = .ok (.aload_n 0, 1) := by decide +kernel
theorem dX4_plan_277 : decode cX4_plan 277 = .ok (.getfield 56, 3) := by decide +kernel
theorem dX4_plan_280 : decode cX4_plan 280 = .ok (.iload 5, 2) := by decide +kernel
theorem dX4_plan_282 : decode cX4_plan 282 = .ok (.iaload, 1) := by decide +kernel
theorem dX4_plan_283 : decode cX4_plan 283 = .ok (.istore 4, 2) := by decide +kernel
theorem dX4_plan_285 : decode cX4_plan 285 = .ok (.iconst 0, 1) := by decide +kernel
theorem dX4_plan_286 : decode cX4_plan 286 = .ok (.istore 7, 2) := by decide +kernel
theorem dX4_plan_288 : decode cX4_plan 288 = .ok (.iload 7, 2) := by decide +kernel
theorem dX4_plan_290 : decode cX4_plan 290 = .ok (.aload_n 0, 1) := by decide +kernel
theorem dX4_plan_291 : decode cX4_plan 291 = .ok (.getfield 78, 3) := by decide +kernel
theorem dX4_plan_294 : decode cX4_plan 294 = .ok (.if_icmp .ge 23, 3) := by decide +kernel
theorem dX4_plan_297 : decode cX4_plan 297 = .ok (.aload_n 0, 1) := by decide +kernel
theorem dX4_plan_298 : decode cX4_plan 298 = .ok (.getfield 50, 3) := by decide +kernel
theorem dX4_plan_301 : decode cX4_plan 301 = .ok (.iload 7, 2) := by decide +kernel
theorem dX4_plan_303 : decode cX4_plan 303 = .ok (.aload_n 0, 1) := by decide +kernel
theorem dX4_plan_304 : decode cX4_plan 304 = .ok (.getfield 47, 3) := by decide +kernel
theorem dX4_plan_307 : decode cX4_plan 307 = .ok (.iload 7, 2) := by decide +kernel
theorem dX4_plan_309 : decode cX4_plan 309 = .ok (.iaload, 1) := by decide +kernel
theorem dX4_plan_310 : decode cX4_plan 310 = .ok (.iastore, 1) := by decide +kernel
theorem dX4_plan_311 : decode cX4_plan 311 = .ok (.iinc 7 1, 3) := by decide +kernel
theorem dX4_plan_314 : decode cX4_plan 314 = .ok (.goto (-26), 3) := by decide +kernel
theorem dX4_plan_317 : decode cX4_plan 317 = .ok (.goto (-297), 3) := by decide +kernel
theorem dX4_plan_320 : decode cX4_plan 320 = .ok (.iload_n 3, 1) := by decide +kernel
theorem dX4_plan_321 : decode cX4_plan 321 = .ok (.ireturn, 1) := by decide +kernel
set_option maxRecDepth 20000 in
theorem ggX4_movesAll_X4_beginMoves : GoodIn wsX4_movesAll wsX4_beginMoves := goodIn_r _ [7, 8, 18, 19, 20, 21, 22, 23, 24, 25, 26, 27, 28, 29, 30, 31, 32, 33, 34, 35, 36, 37, 38, 39, 40, 41, 42] (by decide +kernel) (by decide +kernel)
set_option maxRecDepth 20000 in
theorem gX4_movesAll_X4_beginMoves : GoodIn wsX4_movesAll (wsV RX4 125 RX4 yX4_beginMoves wsX4_beginMoves) := goodIn_app (goodIn_of _ (by decide +kernel)) ggX4_movesAll_X4_beginMoves
set_option maxRecDepth 20000 in
theorem ggX4_movesAll_X4_move : GoodIn wsX4_movesAll wsX4_move := goodIn_r _ [12, 13, 8, 14, 15, 16, 17, 18, 19, 20, 21, 22, 23, 24, 25, 26, 27, 28, 29, 30, 31, 32, 33, 34, 35, 36, 37, 38, 39, 40, 41, 42] (by decide +kernel) (by decide +kernel)
set_option maxRecDepth 20000 in
theorem gX4_movesAll_X4_move : GoodIn wsX4_movesAll (wsV RX4 128 RX4 yX4_move wsX4_move) := goodIn_app (goodIn_of _ (by decide +kernel)) ggX4_movesAll_X4_move
theorem dX4_movesAll_0 : decode cX4_movesAll 0 = .ok (.aload_n 0, 1) := by decide +kernel
theorem dX4_movesAll_1 : decode cX4_movesAll 1 = .ok (.invokevirtual 125, 3) := by decide +kernel
theorem dX4_movesAll_4 : decode cX4_movesAll 4 = .ok (.iconst 0, 1) := by decide +kernel
theorem dX4_movesAll_5 : decode cX4_movesAll 5 = .ok (.istore_n 1, 1) := by decide +kernel
theorem dX4_movesAll_6 : decode cX4_movesAll 6 = .ok (.iload_n 1, 1) := by decide +kernel
theorem dX4_movesAll_7 : decode cX4_movesAll 7 = .ok (.aload_n 0, 1) := by decide +kernel
theorem dX4_movesAll_8 : decode cX4_movesAll 8 = .ok (.getfield 78, 3) := by decide +kernel
theorem dX4_movesAll_11 : decode cX4_movesAll 11 = .ok (.if_icmp .ge 20, 3) := by decide +kernel
theorem dX4_movesAll_14 : decode cX4_movesAll 14 = .ok (.aload_n 0, 1) := by decide +kernel
theorem dX4_movesAll_15 : decode cX4_movesAll 15 = .ok (.iload_n 1, 1) := by decide +kernel
theorem dX4_movesAll_16 : decode cX4_movesAll 16 = .ok (.aload_n 0, 1) := by decide +kernel
theorem dX4_movesAll_17 : decode cX4_movesAll 17 = .ok (.getfield 50, 3) := by decide +kernel
theorem dX4_movesAll_20 : decode cX4_movesAll 20 = .ok (.iload_n 1, 1) := by decide +kernel
theorem dX4_movesAll_21 : decode cX4_movesAll 21 = .ok (.iaload, 1) := by decide +kernel
theorem dX4_movesAll_22 : decode cX4_movesAll 22 = .ok (.invokevirtual 128, 3) := by decide +kernel
theorem dX4_movesAll_25 : decode cX4_movesAll 25 = .ok (.iinc 1 1, 3) := by decide +kernel
theorem dX4_movesAll_28 : decode cX4_movesAll 28 = .ok (.goto (-22), 3) := by decide +kernel
theorem dX4_movesAll_31 : decode cX4_movesAll 31 = .ok (.return_, 1) := by decide +kernel
set_option maxRecDepth 20000 in
theorem ggX4_all_X4_plan : GoodIn wsX4_all wsX4_plan := goodIn_r _ [7, 8, 9, 10, 2, 11, 12, 1, 13, 14, 15, 16, 6, 17, 18, 19, 20, 21, 22, 23, 24, 25, 26, 27, 28, 29, 30, 31, 32, 33, 34, 35, 36, 37, 38, 39, 40, 41, 42, 43, 44, 45, 46, 47, 48, 49, 50, 51, 52, 53, 54, 55, 56, 57, 74, 75, 76, 77, 78, 79, 80, 81, 82, 83, 84, 85, 86, 87, 88, 89, 90, 91, 92, 93, 94, 95, 96, 97, 98] (by decide +kernel) (by decide +kernel)
set_option maxRecDepth 20000 in
theorem gX4_all_X4_plan : GoodIn wsX4_all (wsV RX4 138 RX4 yX4_plan wsX4_plan) := goodIn_app (goodIn_of _ (by decide +kernel)) ggX4_all_X4_plan
set_option maxRecDepth 20000 in
theorem ggX4_all_X4_movesAll : GoodIn wsX4_all wsX4_movesAll := goodIn_r _ [61, 1, 13, 62, 63, 64, 6, 65, 66, 67, 68, 69, 70, 2, 37, 71, 72, 73, 74, 75, 76, 77, 78, 79, 80, 81, 82, 83, 84, 85, 86, 87, 88, 89, 90, 91, 92, 93, 94, 95, 96, 97, 98] (by decide +kernel) (by decide +kernel)
set_option maxRecDepth 20000 in
theorem gX4_all_X4_movesAll : GoodIn wsX4_all (wsV RX4 141 RX4 yX4_movesAll wsX4_movesAll) := goodIn_app (goodIn_of _ (by decide +kernel)) ggX4_all_X4_movesAll
set_option maxRecDepth 20000 in
theorem ggX4_all_X4_delayOf : GoodIn wsX4_all wsX4_delayOf := goodIn_r _ [41, 42, 28, 29, 30, 6, 31, 25, 32, 74, 75, 76, 77, 78, 79, 80, 81, 82, 83, 84, 85, 86, 87, 88, 89, 90, 91, 92, 93, 94, 95, 96, 97, 98] (by decide +kernel) (by decide +kernel)
set_option maxRecDepth 20000 in
theorem gX4_all_X4_delayOf : GoodIn wsX4_all (wsV RX4 122 RX4 yX4_delayOf wsX4_delayOf) := goodIn_app (goodIn_of _ (by decide +kernel)) ggX4_all_X4_delayOf
theorem dX4_all_0 : decode cX4_all 0 = .ok (.aload_n 0, 1) := by decide +kernel
theorem dX4_all_1 : decode cX4_all 1 = .ok (.getfield 78, 3) := by decide +kernel
theorem dX4_all_4 : decode cX4_all 4 = .ok (.ifCond .eq 15, 3) := by decide +kernel
theorem dX4_all_7 : decode cX4_all 7 = .ok (.aload_n 0, 1) := by decide +kernel
theorem dX4_all_8 : decode cX4_all 8 = .ok (.bipush (-100), 2) := by decide +kernel
theorem dX4_all_10 : decode cX4_all 10 = .ok (.iconst 0, 1) := by decide +kernel
theorem dX4_all_11 : decode cX4_all 11 = .ok (.invokevirtual 138, 3) := by decide +kernel
theorem dX4_all_14 : decode cX4_all 14 = .ok (.bipush (-100), 2) := by decide +kernel
theorem dX4_all_16 : decode cX4_all 16 = .ok (.if_icmp .ne 5, 3) := by decide +kernel
theorem dX4_all_19 : decode cX4_all 19 = .ok (.iconst (-1), 1) := by decide +kernel
theorem dX4_all_20 : decode cX4_all 20 = .ok (.ireturn, 1) := by decide +kernel
theorem dX4_all_21 : decode cX4_all 21 = .ok (.aload_n 0, 1) := by decide +kernel
theorem dX4_all_22 : decode cX4_all 22 = .ok (.invokevirtual 141, 3) := by decide +kernel
theorem dX4_all_25 : decode cX4_all 25 = .ok (.iconst 0, 1) := by decide +kernel
theorem dX4_all_26 : decode cX4_all 26 = .ok (.istore_n 1, 1) := by decide +kernel
theorem dX4_all_27 : decode cX4_all 27 = .ok (.iconst 0, 1) := by decide +kernel
theorem dX4_all_28 : decode cX4_all 28 = .ok (.istore_n 2, 1) := by decide +kernel
theorem dX4_all_29 : decode cX4_all 29 = .ok (.iload_n 2, 1) := by decide +kernel
theorem dX4_all_30 : decode cX4_all 30 = .ok (.aload_n 0, 1) := by decide +kernel
theorem dX4_all_31 : decode cX4_all 31 = .ok (.getfield 78, 3) := by decide +kernel
theorem dX4_all_34 : decode cX4_all 34 = .ok (.if_icmp .ge 23, 3) := by decide +kernel
theorem dX4_all_37 : decode cX4_all 37 = .ok (.iload_n 1, 1) := by decide +kernel
theorem dX4_all_38 : decode cX4_all 38 = .ok (.aload_n 0, 1) := by decide +kernel
theorem dX4_all_39 : decode cX4_all 39 = .ok (.iload_n 2, 1) := by decide +kernel
theorem dX4_all_40 : decode cX4_all 40 = .ok (.aload_n 0, 1) := by decide +kernel
theorem dX4_all_41 : decode cX4_all 41 = .ok (.getfield 44, 3) := by decide +kernel
theorem dX4_all_44 : decode cX4_all 44 = .ok (.iload_n 2, 1) := by decide +kernel
theorem dX4_all_45 : decode cX4_all 45 = .ok (.iaload, 1) := by decide +kernel
theorem dX4_all_46 : decode cX4_all 46 = .ok (.invokevirtual 122, 3) := by decide +kernel
theorem dX4_all_49 : decode cX4_all 49 = .ok (.iadd, 1) := by decide +kernel
theorem dX4_all_50 : decode cX4_all 50 = .ok (.istore_n 1, 1) := by decide +kernel
theorem dX4_all_51 : decode cX4_all 51 = .ok (.iinc 2 1, 3) := by decide +kernel
theorem dX4_all_54 : decode cX4_all 54 = .ok (.goto (-25), 3) := by decide +kernel
theorem dX4_all_57 : decode cX4_all 57 = .ok (.iload_n 1, 1) := by decide +kernel
theorem dX4_all_58 : decode cX4_all 58 = .ok (.ireturn, 1) := by decide +kernel
theorem dX4_placedCount_0 : decode cX4_placedCount 0 = .ok (.iconst 0, 1) := by decide +kernel
theorem dX4_placedCount_1 : decode cX4_placedCount 1 = .ok (.istore_n 1, 1) := by decide +kernel
theorem dX4_placedCount_2 : decode cX4_placedCount 2 = .ok (.iconst 0, 1) := by decide +kernel
theorem dX4_placedCount_3 : decode cX4_placedCount 3 = .ok (.istore_n 2, 1) := by decide +kernel
theorem dX4_placedCount_4 : decode cX4_placedCount 4 = .ok (.iload_n 2, 1) := by decide +kernel
theorem dX4_placedCount_5 : decode cX4_placedCount 5 = .ok (.aload_n 0, 1) := by decide +kernel
theorem dX4_placedCount_6 : decode cX4_placedCount 6 = .ok (.getfield 78, 3) := by decide +kernel
theorem dX4_placedCount_9 : decode cX4_placedCount 9 = .ok (.if_icmp .ge 27, 3) := by decide +kernel
theorem dX4_placedCount_12 : decode cX4_placedCount 12 = .ok (.iload_n 1, 1) := by decide +kernel
theorem dX4_placedCount_13 : decode cX4_placedCount 13 = .ok (.aload_n 0, 1) := by decide +kernel
theorem dX4_placedCount_14 : decode cX4_placedCount 14 = .ok (.getfield 44, 3) := by decide +kernel
theorem dX4_placedCount_17 : decode cX4_placedCount 17 = .ok (.iload_n 2, 1) := by decide +kernel
theorem dX4_placedCount_18 : decode cX4_placedCount 18 = .ok (.iaload, 1) := by decide +kernel
theorem dX4_placedCount_19 : decode cX4_placedCount 19 = .ok (.iconst (-1), 1) := by decide +kernel
theorem dX4_placedCount_20 : decode cX4_placedCount 20 = .ok (.if_icmp .eq 7, 3) := by decide +kernel
theorem dX4_placedCount_23 : decode cX4_placedCount 23 = .ok (.iconst 1, 1) := by decide +kernel
theorem dX4_placedCount_24 : decode cX4_placedCount 24 = .ok (.goto 4, 3) := by decide +kernel
theorem dX4_placedCount_27 : decode cX4_placedCount 27 = .ok (.iconst 0, 1) := by decide +kernel
theorem dX4_placedCount_28 : decode cX4_placedCount 28 = .ok (.iadd, 1) := by decide +kernel
theorem dX4_placedCount_29 : decode cX4_placedCount 29 = .ok (.istore_n 1, 1) := by decide +kernel
theorem dX4_placedCount_30 : decode cX4_placedCount 30 = .ok (.iinc 2 1, 3) := by decide +kernel
theorem dX4_placedCount_33 : decode cX4_placedCount 33 = .ok (.goto (-29), 3) := by decide +kernel
theorem dX4_placedCount_36 : decode cX4_placedCount 36 = .ok (.iload_n 1, 1) := by decide +kernel
theorem dX4_placedCount_37 : decode cX4_placedCount 37 = .ok (.ireturn, 1) := by decide +kernel
set_option maxRecDepth 20000 in
theorem ggX4_late_X4_isWork : GoodIn wsX4_late wsX4_isWork := goodIn_r _ [6, 1, 86, 87, 88, 89, 90, 91, 92, 93, 94, 95, 96, 97, 98, 99, 100, 101, 102, 103, 104, 105, 106, 107, 108, 109, 110] (by decide +kernel) (by decide +kernel)
set_option maxRecDepth 20000 in
theorem gX4_late_X4_isWork : GoodIn wsX4_late (wsV RX4 85 RX4 yX4_isWork wsX4_isWork) := goodIn_app (goodIn_of _ (by decide +kernel)) ggX4_late_X4_isWork
set_option maxRecDepth 20000 in
theorem ggX4_late_X4_isHour : GoodIn wsX4_late wsX4_isHour := goodIn_r _ [10, 11, 86, 87, 88, 89, 90, 91, 92, 93, 94, 95, 96, 97, 98, 99, 100, 101, 102, 103, 104, 105, 106, 107, 108, 109, 110] (by decide +kernel) (by decide +kernel)
set_option maxRecDepth 20000 in
theorem gX4_late_X4_isHour : GoodIn wsX4_late (wsV RX4 89 RX4 yX4_isHour wsX4_isHour) := goodIn_app (goodIn_of _ (by decide +kernel)) ggX4_late_X4_isHour
set_option maxRecDepth 20000 in
theorem ggX4_late_X4_placedCount : GoodIn wsX4_late wsX4_placedCount := goodIn_r _ [15, 1, 16, 86, 87, 88, 89, 90, 91, 92, 93, 94, 95, 96, 97, 98, 99, 100, 101, 102, 103, 104, 105, 106, 107, 108, 109, 110] (by decide +kernel) (by decide +kernel)
set_option maxRecDepth 20000 in
theorem gX4_late_X4_placedCount : GoodIn wsX4_late (wsV RX4 144 RX4 yX4_placedCount wsX4_placedCount) := goodIn_app (goodIn_of _ (by decide +kernel)) ggX4_late_X4_placedCount
set_option maxRecDepth 20000 in
theorem ggX4_late_X4_isFixed : GoodIn wsX4_late wsX4_isFixed := goodIn_r _ [20, 21, 86, 87, 88, 89, 90, 91, 92, 93, 94, 95, 96, 97, 98, 99, 100, 101, 102, 103, 104, 105, 106, 107, 108, 109, 110] (by decide +kernel) (by decide +kernel)
set_option maxRecDepth 20000 in
theorem gX4_late_X4_isFixed : GoodIn wsX4_late (wsV RX4 116 RX4 yX4_isFixed wsX4_isFixed) := goodIn_app (goodIn_of _ (by decide +kernel)) ggX4_late_X4_isFixed
set_option maxRecDepth 20000 in
theorem ggX4_late_X4_plan : GoodIn wsX4_late wsX4_plan := goodIn_r _ [25, 26, 11, 27, 16, 28, 29, 1, 30, 31, 32, 33, 5, 34, 35, 36, 37, 38, 39, 40, 41, 42, 43, 44, 45, 46, 47, 48, 49, 17, 18, 19, 20, 21, 50, 51, 52, 53, 54, 55, 56, 57, 58, 59, 60, 61, 62, 63, 64, 65, 66, 67, 68, 69, 86, 87, 88, 89, 90, 91, 92, 93, 94, 95, 96, 97, 98, 99, 100, 101, 102, 103, 104, 105, 106, 107, 108, 109, 110] (by decide +kernel) (by decide +kernel)
set_option maxRecDepth 20000 in
theorem gX4_late_X4_plan : GoodIn wsX4_late (wsV RX4 138 RX4 yX4_plan wsX4_plan) := goodIn_app (goodIn_of _ (by decide +kernel)) ggX4_late_X4_plan
set_option maxRecDepth 20000 in
theorem ggX4_late_X4_movesAll : GoodIn wsX4_late wsX4_movesAll := goodIn_r _ [73, 1, 30, 74, 75, 76, 5, 77, 78, 79, 80, 81, 82, 16, 21, 83, 84, 85, 86, 87, 88, 89, 90, 91, 92, 93, 94, 95, 96, 97, 98, 99, 100, 101, 102, 103, 104, 105, 106, 107, 108, 109, 110] (by decide +kernel) (by decide +kernel)
set_option maxRecDepth 20000 in
theorem gX4_late_X4_movesAll : GoodIn wsX4_late (wsV RX4 141 RX4 yX4_movesAll wsX4_movesAll) := goodIn_app (goodIn_of _ (by decide +kernel)) ggX4_late_X4_movesAll
theorem dX4_late_0 : decode cX4_late 0 = .ok (.aload_n 0, 1) := by decide +kernel
theorem dX4_late_1 : decode cX4_late 1 = .ok (.iload_n 1, 1) := by decide +kernel
theorem dX4_late_2 : decode cX4_late 2 = .ok (.invokevirtual 85, 3) := by decide +kernel
theorem dX4_late_5 : decode cX4_late 5 = .ok (.ifCond .eq 30, 3) := by decide +kernel
theorem dX4_late_8 : decode cX4_late 8 = .ok (.aload_n 0, 1) := by decide +kernel
theorem dX4_late_9 : decode cX4_late 9 = .ok (.iload_n 2, 1) := by decide +kernel
theorem dX4_late_10 : decode cX4_late 10 = .ok (.invokevirtual 89, 3) := by decide +kernel
theorem dX4_late_13 : decode cX4_late 13 = .ok (.ifCond .eq 22, 3) := by decide +kernel
theorem dX4_late_16 : decode cX4_late 16 = .ok (.aload_n 0, 1) := by decide +kernel
theorem dX4_late_17 : decode cX4_late 17 = .ok (.invokevirtual 144, 3) := by decide +kernel
theorem dX4_late_20 : decode cX4_late 20 = .ok (.aload_n 0, 1) := by decide +kernel
theorem dX4_late_21 : decode cX4_late 21 = .ok (.getfield 78, 3) := by decide +kernel
theorem dX4_late_24 : decode cX4_late 24 = .ok (.if_icmp .lt 11, 3) := by decide +kernel
theorem dX4_late_27 : decode cX4_late 27 = .ok (.aload_n 0, 1) := by decide +kernel
theorem dX4_late_28 : decode cX4_late 28 = .ok (.iload_n 1, 1) := by decide +kernel
theorem dX4_late_29 : decode cX4_late 29 = .ok (.invokevirtual 116, 3) := by decide +kernel
theorem dX4_late_32 : decode cX4_late 32 = .ok (.ifCond .eq 5, 3) := by decide +kernel
theorem dX4_late_35 : decode cX4_late 35 = .ok (.iconst (-1), 1) := by decide +kernel
theorem dX4_late_36 : decode cX4_late 36 = .ok (.ireturn, 1) := by decide +kernel
theorem dX4_late_37 : decode cX4_late 37 = .ok (.aload_n 0, 1) := by decide +kernel
theorem dX4_late_38 : decode cX4_late 38 = .ok (.iload_n 1, 1) := by decide +kernel
theorem dX4_late_39 : decode cX4_late 39 = .ok (.iload_n 2, 1) := by decide +kernel
theorem dX4_late_40 : decode cX4_late 40 = .ok (.invokevirtual 138, 3) := by decide +kernel
theorem dX4_late_43 : decode cX4_late 43 = .ok (.istore_n 3, 1) := by decide +kernel
theorem dX4_late_44 : decode cX4_late 44 = .ok (.iload_n 3, 1) := by decide +kernel
theorem dX4_late_45 : decode cX4_late 45 = .ok (.bipush (-100), 2) := by decide +kernel
theorem dX4_late_47 : decode cX4_late 47 = .ok (.if_icmp .ne 5, 3) := by decide +kernel
theorem dX4_late_50 : decode cX4_late 50 = .ok (.iconst (-1), 1) := by decide +kernel
theorem dX4_late_51 : decode cX4_late 51 = .ok (.ireturn, 1) := by decide +kernel
theorem dX4_late_52 : decode cX4_late 52 = .ok (.aload_n 0, 1) := by decide +kernel
theorem dX4_late_53 : decode cX4_late 53 = .ok (.invokevirtual 141, 3) := by decide +kernel
theorem dX4_late_56 : decode cX4_late 56 = .ok (.iload_n 3, 1) := by decide +kernel
theorem dX4_late_57 : decode cX4_late 57 = .ok (.ireturn, 1) := by decide +kernel
theorem dX4_moved_0 : decode cX4_moved 0 = .ok (.iconst 0, 1) := by decide +kernel
theorem dX4_moved_1 : decode cX4_moved 1 = .ok (.istore_n 2, 1) := by decide +kernel
theorem dX4_moved_2 : decode cX4_moved 2 = .ok (.iconst 0, 1) := by decide +kernel
theorem dX4_moved_3 : decode cX4_moved 3 = .ok (.istore_n 3, 1) := by decide +kernel
theorem dX4_moved_4 : decode cX4_moved 4 = .ok (.iload_n 3, 1) := by decide +kernel
theorem dX4_moved_5 : decode cX4_moved 5 = .ok (.aload_n 0, 1) := by decide +kernel
theorem dX4_moved_6 : decode cX4_moved 6 = .ok (.getfield 78, 3) := by decide +kernel
theorem dX4_moved_9 : decode cX4_moved 9 = .ok (.if_icmp .ge 28, 3) := by decide +kernel
theorem dX4_moved_12 : decode cX4_moved 12 = .ok (.aload_n 0, 1) := by decide +kernel
theorem dX4_moved_13 : decode cX4_moved 13 = .ok (.getfield 65, 3) := by decide +kernel
theorem dX4_moved_16 : decode cX4_moved 16 = .ok (.iload_n 3, 1) := by decide +kernel
theorem dX4_moved_17 : decode cX4_moved 17 = .ok (.baload, 1) := by decide +kernel
theorem dX4_moved_18 : decode cX4_moved 18 = .ok (.ifCond .eq 13, 3) := by decide +kernel
theorem dX4_moved_21 : decode cX4_moved 21 = .ok (.iload_n 2, 1) := by decide +kernel
theorem dX4_moved_22 : decode cX4_moved 22 = .ok (.iload_n 1, 1) := by decide +kernel
theorem dX4_moved_23 : decode cX4_moved 23 = .ok (.if_icmp .ne 5, 3) := by decide +kernel
theorem dX4_moved_26 : decode cX4_moved 26 = .ok (.iload_n 3, 1) := by decide +kernel
theorem dX4_moved_27 : decode cX4_moved 27 = .ok (.ireturn, 1) := by decide +kernel
theorem dX4_moved_28 : decode cX4_moved 28 = .ok (.iinc 2 1, 3) := by decide +kernel
theorem dX4_moved_31 : decode cX4_moved 31 = .ok (.iinc 3 1, 3) := by decide +kernel
theorem dX4_moved_34 : decode cX4_moved 34 = .ok (.goto (-30), 3) := by decide +kernel
theorem dX4_moved_37 : decode cX4_moved 37 = .ok (.iconst (-1), 1) := by decide +kernel
theorem dX4_moved_38 : decode cX4_moved 38 = .ok (.ireturn, 1) := by decide +kernel
set_option maxRecDepth 20000 in
theorem ggX4_start_X4_isWork : GoodIn wsX4_start wsX4_isWork := goodIn_r _ [6, 7, 8, 9, 10, 11, 12, 13, 14, 15, 16, 17, 18, 19, 20, 21, 22, 23, 24, 25, 26, 27, 28, 29, 30, 31, 32] (by decide +kernel) (by decide +kernel)
set_option maxRecDepth 20000 in
theorem gX4_start_X4_isWork : GoodIn wsX4_start (wsV RX4 85 RX4 yX4_isWork wsX4_isWork) := goodIn_app (goodIn_of _ (by decide +kernel)) ggX4_start_X4_isWork
theorem dX4_start_0 : decode cX4_start 0 = .ok (.aload_n 0, 1) := by decide +kernel
theorem dX4_start_1 : decode cX4_start 1 = .ok (.iload_n 1, 1) := by decide +kernel
theorem dX4_start_2 : decode cX4_start 2 = .ok (.invokevirtual 85, 3) := by decide +kernel
theorem dX4_start_5 : decode cX4_start 5 = .ok (.ifCond .eq 12, 3) := by decide +kernel
theorem dX4_start_8 : decode cX4_start 8 = .ok (.aload_n 0, 1) := by decide +kernel
theorem dX4_start_9 : decode cX4_start 9 = .ok (.getfield 44, 3) := by decide +kernel
theorem dX4_start_12 : decode cX4_start 12 = .ok (.iload_n 1, 1) := by decide +kernel
theorem dX4_start_13 : decode cX4_start 13 = .ok (.iaload, 1) := by decide +kernel
theorem dX4_start_14 : decode cX4_start 14 = .ok (.goto 4, 3) := by decide +kernel
theorem dX4_start_17 : decode cX4_start 17 = .ok (.iconst (-1), 1) := by decide +kernel
theorem dX4_start_18 : decode cX4_start 18 = .ok (.ireturn, 1) := by decide +kernel
set_option maxRecDepth 20000 in
theorem ggX4_least_X4_delayOf : GoodIn wsX4_least wsX4_delayOf := goodIn_r _ [7, 8, 9, 10, 11, 6, 12, 13, 14, 19, 20, 21, 22, 23, 24, 25, 26, 27, 28, 29, 30, 31, 32, 33, 34, 35, 36, 37, 38, 39, 40, 41, 42, 43] (by decide +kernel) (by decide +kernel)
set_option maxRecDepth 20000 in
theorem gX4_least_X4_delayOf : GoodIn wsX4_least (wsV RX4 122 RX4 yX4_delayOf wsX4_delayOf) := goodIn_app (goodIn_of _ (by decide +kernel)) ggX4_least_X4_delayOf
set_option maxRecDepth 20000 in
theorem ggX4_least_X4_isWork : GoodIn wsX4_least wsX4_isWork := goodIn_r _ [18, 1, 19, 20, 21, 22, 23, 24, 25, 26, 27, 28, 29, 30, 31, 32, 33, 34, 35, 36, 37, 38, 39, 40, 41, 42, 43] (by decide +kernel) (by decide +kernel)
set_option maxRecDepth 20000 in
theorem gX4_least_X4_isWork : GoodIn wsX4_least (wsV RX4 85 RX4 yX4_isWork wsX4_isWork) := goodIn_app (goodIn_of _ (by decide +kernel)) ggX4_least_X4_isWork
theorem dX4_least_0 : decode cX4_least 0 = .ok (.iload_n 1, 1) := by decide +kernel
theorem dX4_least_1 : decode cX4_least 1 = .ok (.iconst (-1), 1) := by decide +kernel
theorem dX4_least_2 : decode cX4_least 2 = .ok (.if_icmp .ne 51, 3) := by decide +kernel
theorem dX4_least_5 : decode cX4_least 5 = .ok (.iconst 0, 1) := by decide +kernel
theorem dX4_least_6 : decode cX4_least 6 = .ok (.istore_n 2, 1) := by decide +kernel
theorem dX4_least_7 : decode cX4_least 7 = .ok (.iconst 0, 1) := by decide +kernel
theorem dX4_least_8 : decode cX4_least 8 = .ok (.istore_n 3, 1) := by decide +kernel
theorem dX4_least_9 : decode cX4_least 9 = .ok (.iload_n 3, 1) := by decide +kernel
theorem dX4_least_10 : decode cX4_least 10 = .ok (.aload_n 0, 1) := by decide +kernel
theorem dX4_least_11 : decode cX4_least 11 = .ok (.getfield 78, 3) := by decide +kernel
theorem dX4_least_14 : decode cX4_least 14 = .ok (.if_icmp .ge 37, 3) := by decide +kernel
theorem dX4_least_17 : decode cX4_least 17 = .ok (.iload_n 2, 1) := by decide +kernel
theorem dX4_least_18 : decode cX4_least 18 = .ok (.aload_n 0, 1) := by decide +kernel
theorem dX4_least_19 : decode cX4_least 19 = .ok (.getfield 44, 3) := by decide +kernel
theorem dX4_least_22 : decode cX4_least 22 = .ok (.iload_n 3, 1) := by decide +kernel
theorem dX4_least_23 : decode cX4_least 23 = .ok (.iaload, 1) := by decide +kernel
theorem dX4_least_24 : decode cX4_least 24 = .ok (.iconst (-1), 1) := by decide +kernel
theorem dX4_least_25 : decode cX4_least 25 = .ok (.if_icmp .eq 17, 3) := by decide +kernel
theorem dX4_least_28 : decode cX4_least 28 = .ok (.aload_n 0, 1) := by decide +kernel
theorem dX4_least_29 : decode cX4_least 29 = .ok (.iload_n 3, 1) := by decide +kernel
theorem dX4_least_30 : decode cX4_least 30 = .ok (.aload_n 0, 1) := by decide +kernel
theorem dX4_least_31 : decode cX4_least 31 = .ok (.getfield 44, 3) := by decide +kernel
theorem dX4_least_34 : decode cX4_least 34 = .ok (.iload_n 3, 1) := by decide +kernel
theorem dX4_least_35 : decode cX4_least 35 = .ok (.iaload, 1) := by decide +kernel
theorem dX4_least_36 : decode cX4_least 36 = .ok (.invokevirtual 122, 3) := by decide +kernel
theorem dX4_least_39 : decode cX4_least 39 = .ok (.goto 4, 3) := by decide +kernel
theorem dX4_least_42 : decode cX4_least 42 = .ok (.iconst 0, 1) := by decide +kernel
theorem dX4_least_43 : decode cX4_least 43 = .ok (.iadd, 1) := by decide +kernel
theorem dX4_least_44 : decode cX4_least 44 = .ok (.istore_n 2, 1) := by decide +kernel
theorem dX4_least_45 : decode cX4_least 45 = .ok (.iinc 3 1, 3) := by decide +kernel
theorem dX4_least_48 : decode cX4_least 48 = .ok (.goto (-39), 3) := by decide +kernel
theorem dX4_least_51 : decode cX4_least 51 = .ok (.iload_n 2, 1) := by decide +kernel
theorem dX4_least_52 : decode cX4_least 52 = .ok (.ireturn, 1) := by decide +kernel
theorem dX4_least_53 : decode cX4_least 53 = .ok (.aload_n 0, 1) := by decide +kernel
theorem dX4_least_54 : decode cX4_least 54 = .ok (.iload_n 1, 1) := by decide +kernel
theorem dX4_least_55 : decode cX4_least 55 = .ok (.invokevirtual 85, 3) := by decide +kernel
theorem dX4_least_58 : decode cX4_least 58 = .ok (.ifCond .eq 27, 3) := by decide +kernel
theorem dX4_least_61 : decode cX4_least 61 = .ok (.aload_n 0, 1) := by decide +kernel
theorem dX4_least_62 : decode cX4_least 62 = .ok (.getfield 44, 3) := by decide +kernel
theorem dX4_least_65 : decode cX4_least 65 = .ok (.iload_n 1, 1) := by decide +kernel
theorem dX4_least_66 : decode cX4_least 66 = .ok (.iaload, 1) := by decide +kernel
theorem dX4_least_67 : decode cX4_least 67 = .ok (.iconst (-1), 1) := by decide +kernel
theorem dX4_least_68 : decode cX4_least 68 = .ok (.if_icmp .eq 17, 3) := by decide +kernel
theorem dX4_least_71 : decode cX4_least 71 = .ok (.aload_n 0, 1) := by decide +kernel
theorem dX4_least_72 : decode cX4_least 72 = .ok (.iload_n 1, 1) := by decide +kernel
theorem dX4_least_73 : decode cX4_least 73 = .ok (.aload_n 0, 1) := by decide +kernel
theorem dX4_least_74 : decode cX4_least 74 = .ok (.getfield 44, 3) := by decide +kernel
theorem dX4_least_77 : decode cX4_least 77 = .ok (.iload_n 1, 1) := by decide +kernel
theorem dX4_least_78 : decode cX4_least 78 = .ok (.iaload, 1) := by decide +kernel
theorem dX4_least_79 : decode cX4_least 79 = .ok (.invokevirtual 122, 3) := by decide +kernel
theorem dX4_least_82 : decode cX4_least 82 = .ok (.goto 4, 3) := by decide +kernel
theorem dX4_least_85 : decode cX4_least 85 = .ok (.iconst (-1), 1) := by decide +kernel
theorem dX4_least_86 : decode cX4_least 86 = .ok (.ireturn, 1) := by decide +kernel
set_option maxRecDepth 20000 in
theorem ggX4_act_X4_isWork : GoodIn wsX4_act wsX4_isWork := goodIn_r _ [7, 8, 12, 13, 14, 15, 16, 17, 18, 19, 20, 21, 22, 23, 24, 25, 26, 27, 28, 29, 30, 31, 32, 33, 34, 35, 36] (by decide +kernel) (by decide +kernel)
set_option maxRecDepth 20000 in
theorem gX4_act_X4_isWork : GoodIn wsX4_act (wsV RX4 85 RX4 yX4_isWork wsX4_isWork) := goodIn_app (goodIn_of _ (by decide +kernel)) ggX4_act_X4_isWork
set_option maxRecDepth 20000 in
theorem ggX4_act_X4_isIn : GoodIn wsX4_act wsX4_isIn := goodIn_r _ [11] (by decide +kernel) (by decide +kernel)
set_option maxRecDepth 20000 in
theorem gX4_act_X4_isIn : GoodIn wsX4_act (va_wsS RX4 81 yX4_isIn wsX4_isIn) := goodIn_app (goodIn_of _ (by decide +kernel)) ggX4_act_X4_isIn
theorem dX4_act_0 : decode cX4_act 0 = .ok (.aload_n 0, 1) := by decide +kernel
theorem dX4_act_1 : decode cX4_act 1 = .ok (.iload_n 1, 1) := by decide +kernel
theorem dX4_act_2 : decode cX4_act 2 = .ok (.invokevirtual 85, 3) := by decide +kernel
theorem dX4_act_5 : decode cX4_act 5 = .ok (.ifCond .eq 12, 3) := by decide +kernel
theorem dX4_act_8 : decode cX4_act 8 = .ok (.iload_n 3, 1) := by decide +kernel
theorem dX4_act_9 : decode cX4_act 9 = .ok (.iconst 0, 1) := by decide +kernel
theorem dX4_act_10 : decode cX4_act 10 = .ok (.iconst 2, 1) := by decide +kernel
theorem dX4_act_11 : decode cX4_act 11 = .ok (.invokestatic 81, 3) := by decide +kernel
theorem dX4_act_14 : decode cX4_act 14 = .ok (.ifCond .ne 5, 3) := by decide +kernel
theorem dX4_act_17 : decode cX4_act 17 = .ok (.iconst (-1), 1) := by decide +kernel
theorem dX4_act_18 : decode cX4_act 18 = .ok (.ireturn, 1) := by decide +kernel
theorem dX4_act_19 : decode cX4_act 19 = .ok (.aload_n 0, 1) := by decide +kernel
theorem dX4_act_20 : decode cX4_act 20 = .ok (.getfield 41, 3) := by decide +kernel
theorem dX4_act_23 : decode cX4_act 23 = .ok (.iload_n 1, 1) := by decide +kernel
theorem dX4_act_24 : decode cX4_act 24 = .ok (.iaload, 1) := by decide +kernel
theorem dX4_act_25 : decode cX4_act 25 = .ok (.istore 4, 2) := by decide +kernel
theorem dX4_act_27 : decode cX4_act 27 = .ok (.iconst (-1), 1) := by decide +kernel
theorem dX4_act_28 : decode cX4_act 28 = .ok (.istore 5, 2) := by decide +kernel
theorem dX4_act_30 : decode cX4_act 30 = .ok (.iload_n 2, 1) := by decide +kernel
theorem dX4_act_31 : decode cX4_act 31 = .ok (.tableswitch 172 0 5 #[37, 66, 87, 114, 135, 156], 37) := by decide +kernel
theorem dX4_act_68 : decode cX4_act 68 = .ok (.iload_n 3, 1) := by decide +kernel
theorem dX4_act_69 : decode cX4_act 69 = .ok (.ifCond .ne 22, 3) := by decide +kernel
theorem dX4_act_72 : decode cX4_act 72 = .ok (.iload 4, 2) := by decide +kernel
theorem dX4_act_74 : decode cX4_act 74 = .ok (.ifCond .ne 17, 3) := by decide +kernel
theorem dX4_act_77 : decode cX4_act 77 = .ok (.aload_n 0, 1) := by decide +kernel
theorem dX4_act_78 : decode cX4_act 78 = .ok (.getfield 44, 3) := by decide +kernel
theorem dX4_act_81 : decode cX4_act 81 = .ok (.iload_n 1, 1) := by decide +kernel
theorem dX4_act_82 : decode cX4_act 82 = .ok (.iaload, 1) := by decide +kernel
theorem dX4_act_83 : decode cX4_act 83 = .ok (.iconst (-1), 1) := by decide +kernel
theorem dX4_act_84 : decode cX4_act 84 = .ok (.if_icmp .eq 7, 3) := by decide +kernel
theorem dX4_act_87 : decode cX4_act 87 = .ok (.iconst 1, 1) := by decide +kernel
theorem dX4_act_88 : decode cX4_act 88 = .ok (.goto 4, 3) := by decide +kernel
theorem dX4_act_91 : decode cX4_act 91 = .ok (.iconst (-1), 1) := by decide +kernel
theorem dX4_act_92 : decode cX4_act 92 = .ok (.istore 5, 2) := by decide +kernel
theorem dX4_act_94 : decode cX4_act 94 = .ok (.goto 109, 3) := by decide +kernel
theorem dX4_act_97 : decode cX4_act 97 = .ok (.iload_n 3, 1) := by decide +kernel
theorem dX4_act_98 : decode cX4_act 98 = .ok (.iconst 1, 1) := by decide +kernel
theorem dX4_act_99 : decode cX4_act 99 = .ok (.if_icmp .ne 13, 3) := by decide +kernel
theorem dX4_act_102 : decode cX4_act 102 = .ok (.iload 4, 2) := by decide +kernel
theorem dX4_act_104 : decode cX4_act 104 = .ok (.iconst 1, 1) := by decide +kernel
theorem dX4_act_105 : decode cX4_act 105 = .ok (.if_icmp .ne 7, 3) := by decide +kernel
theorem dX4_act_108 : decode cX4_act 108 = .ok (.iconst 2, 1) := by decide +kernel
theorem dX4_act_109 : decode cX4_act 109 = .ok (.goto 4, 3) := by decide +kernel
theorem dX4_act_112 : decode cX4_act 112 = .ok (.iconst (-1), 1) := by decide +kernel
theorem dX4_act_113 : decode cX4_act 113 = .ok (.istore 5, 2) := by decide +kernel
theorem dX4_act_115 : decode cX4_act 115 = .ok (.goto 88, 3) := by decide +kernel
theorem dX4_act_118 : decode cX4_act 118 = .ok (.iload_n 3, 1) := by decide +kernel
theorem dX4_act_119 : decode cX4_act 119 = .ok (.iconst 1, 1) := by decide +kernel
theorem dX4_act_120 : decode cX4_act 120 = .ok (.if_icmp .ne 19, 3) := by decide +kernel
theorem dX4_act_123 : decode cX4_act 123 = .ok (.iload 4, 2) := by decide +kernel
theorem dX4_act_125 : decode cX4_act 125 = .ok (.iconst 1, 1) := by decide +kernel
theorem dX4_act_126 : decode cX4_act 126 = .ok (.if_icmp .eq 9, 3) := by decide +kernel
theorem dX4_act_129 : decode cX4_act 129 = .ok (.iload 4, 2) := by decide +kernel
theorem dX4_act_131 : decode cX4_act 131 = .ok (.iconst 2, 1) := by decide +kernel
theorem dX4_act_132 : decode cX4_act 132 = .ok (.if_icmp .ne 7, 3) := by decide +kernel
theorem dX4_act_135 : decode cX4_act 135 = .ok (.iconst 0, 1) := by decide +kernel
theorem dX4_act_136 : decode cX4_act 136 = .ok (.goto 4, 3) := by decide +kernel
theorem dX4_act_139 : decode cX4_act 139 = .ok (.iconst (-1), 1) := by decide +kernel
theorem dX4_act_140 : decode cX4_act 140 = .ok (.istore 5, 2) := by decide +kernel
theorem dX4_act_142 : decode cX4_act 142 = .ok (.goto 61, 3) := by decide +kernel
theorem dX4_act_145 : decode cX4_act 145 = .ok (.iload_n 3, 1) := by decide +kernel
theorem dX4_act_146 : decode cX4_act 146 = .ok (.iconst 2, 1) := by decide +kernel
theorem dX4_act_147 : decode cX4_act 147 = .ok (.if_icmp .ne 13, 3) := by decide +kernel
theorem dX4_act_150 : decode cX4_act 150 = .ok (.iload 4, 2) := by decide +kernel
theorem dX4_act_152 : decode cX4_act 152 = .ok (.iconst 2, 1) := by decide +kernel
theorem dX4_act_153 : decode cX4_act 153 = .ok (.if_icmp .ne 7, 3) := by decide +kernel
theorem dX4_act_156 : decode cX4_act 156 = .ok (.iconst 3, 1) := by decide +kernel
theorem dX4_act_157 : decode cX4_act 157 = .ok (.goto 4, 3) := by decide +kernel
theorem dX4_act_160 : decode cX4_act 160 = .ok (.iconst (-1), 1) := by decide +kernel
theorem dX4_act_161 : decode cX4_act 161 = .ok (.istore 5, 2) := by decide +kernel
theorem dX4_act_163 : decode cX4_act 163 = .ok (.goto 40, 3) := by decide +kernel
theorem dX4_act_166 : decode cX4_act 166 = .ok (.iload_n 3, 1) := by decide +kernel
theorem dX4_act_167 : decode cX4_act 167 = .ok (.iconst 2, 1) := by decide +kernel
theorem dX4_act_168 : decode cX4_act 168 = .ok (.if_icmp .ne 13, 3) := by decide +kernel
theorem dX4_act_171 : decode cX4_act 171 = .ok (.iload 4, 2) := by decide +kernel
theorem dX4_act_173 : decode cX4_act 173 = .ok (.iconst 3, 1) := by decide +kernel
theorem dX4_act_174 : decode cX4_act 174 = .ok (.if_icmp .ne 7, 3) := by decide +kernel
theorem dX4_act_177 : decode cX4_act 177 = .ok (.iconst 4, 1) := by decide +kernel
theorem dX4_act_178 : decode cX4_act 178 = .ok (.goto 4, 3) := by decide +kernel
theorem dX4_act_181 : decode cX4_act 181 = .ok (.iconst (-1), 1) := by decide +kernel
theorem dX4_act_182 : decode cX4_act 182 = .ok (.istore 5, 2) := by decide +kernel
theorem dX4_act_184 : decode cX4_act 184 = .ok (.goto 19, 3) := by decide +kernel
theorem dX4_act_187 : decode cX4_act 187 = .ok (.iload 4, 2) := by decide +kernel
theorem dX4_act_189 : decode cX4_act 189 = .ok (.iconst 3, 1) := by decide +kernel
theorem dX4_act_190 : decode cX4_act 190 = .ok (.if_icmp .ne 7, 3) := by decide +kernel
theorem dX4_act_193 : decode cX4_act 193 = .ok (.iconst 2, 1) := by decide +kernel
theorem dX4_act_194 : decode cX4_act 194 = .ok (.goto 4, 3) := by decide +kernel
theorem dX4_act_197 : decode cX4_act 197 = .ok (.iconst (-1), 1) := by decide +kernel
theorem dX4_act_198 : decode cX4_act 198 = .ok (.istore 5, 2) := by decide +kernel
theorem dX4_act_200 : decode cX4_act 200 = .ok (.goto 3, 3) := by decide +kernel
theorem dX4_act_203 : decode cX4_act 203 = .ok (.aload_n 0, 1) := by decide +kernel
theorem dX4_act_204 : decode cX4_act 204 = .ok (.getfield 41, 3) := by decide +kernel
theorem dX4_act_207 : decode cX4_act 207 = .ok (.iload_n 1, 1) := by decide +kernel
theorem dX4_act_208 : decode cX4_act 208 = .ok (.iload 5, 2) := by decide +kernel
theorem dX4_act_210 : decode cX4_act 210 = .ok (.iconst (-1), 1) := by decide +kernel
theorem dX4_act_211 : decode cX4_act 211 = .ok (.if_icmp .ne 8, 3) := by decide +kernel
theorem dX4_act_214 : decode cX4_act 214 = .ok (.iload 4, 2) := by decide +kernel
theorem dX4_act_216 : decode cX4_act 216 = .ok (.goto 5, 3) := by decide +kernel
theorem dX4_act_219 : decode cX4_act 219 = .ok (.iload 5, 2) := by decide +kernel
theorem dX4_act_221 : decode cX4_act 221 = .ok (.iastore, 1) := by decide +kernel
theorem dX4_act_222 : decode cX4_act 222 = .ok (.iload 5, 2) := by decide +kernel
theorem dX4_act_224 : decode cX4_act 224 = .ok (.ireturn, 1) := by decide +kernel
set_option maxRecDepth 20000 in
theorem ggX4_state_X4_isWork : GoodIn wsX4_state wsX4_isWork := goodIn_r _ [6, 7, 8, 9, 10, 11, 12, 13, 14, 15, 16, 17, 18, 19, 20, 21, 22, 23, 24, 25, 26, 27, 28, 29, 30, 31, 32] (by decide +kernel) (by decide +kernel)
set_option maxRecDepth 20000 in
theorem gX4_state_X4_isWork : GoodIn wsX4_state (wsV RX4 85 RX4 yX4_isWork wsX4_isWork) := goodIn_app (goodIn_of _ (by decide +kernel)) ggX4_state_X4_isWork
theorem dX4_state_0 : decode cX4_state 0 = .ok (.aload_n 0, 1) := by decide +kernel
theorem dX4_state_1 : decode cX4_state 1 = .ok (.iload_n 1, 1) := by decide +kernel
theorem dX4_state_2 : decode cX4_state 2 = .ok (.invokevirtual 85, 3) := by decide +kernel
theorem dX4_state_5 : decode cX4_state 5 = .ok (.ifCond .eq 12, 3) := by decide +kernel
theorem dX4_state_8 : decode cX4_state 8 = .ok (.aload_n 0, 1) := by decide +kernel
theorem dX4_state_9 : decode cX4_state 9 = .ok (.getfield 41, 3) := by decide +kernel
theorem dX4_state_12 : decode cX4_state 12 = .ok (.iload_n 1, 1) := by decide +kernel
theorem dX4_state_13 : decode cX4_state 13 = .ok (.iaload, 1) := by decide +kernel
theorem dX4_state_14 : decode cX4_state 14 = .ok (.goto 4, 3) := by decide +kernel
theorem dX4_state_17 : decode cX4_state 17 = .ok (.iconst (-1), 1) := by decide +kernel
theorem dX4_state_18 : decode cX4_state 18 = .ok (.ireturn, 1) := by decide +kernel
theorem dX4_notice_0 : decode cX4_notice 0 = .ok (.iload_n 1, 1) := by decide +kernel
theorem dX4_notice_1 : decode cX4_notice 1 = .ok (.ifCond .lt 27, 3) := by decide +kernel
theorem dX4_notice_4 : decode cX4_notice 4 = .ok (.iload_n 1, 1) := by decide +kernel
theorem dX4_notice_5 : decode cX4_notice 5 = .ok (.aload_n 0, 1) := by decide +kernel
theorem dX4_notice_6 : decode cX4_notice 6 = .ok (.getfield 113, 3) := by decide +kernel
theorem dX4_notice_9 : decode cX4_notice 9 = .ok (.if_icmp .ge 19, 3) := by decide +kernel
theorem dX4_notice_12 : decode cX4_notice 12 = .ok (.iload_n 1, 1) := by decide +kernel
theorem dX4_notice_13 : decode cX4_notice 13 = .ok (.sipush 200, 3) := by decide +kernel
theorem dX4_notice_16 : decode cX4_notice 16 = .ok (.if_icmp .ge 12, 3) := by decide +kernel
theorem dX4_notice_19 : decode cX4_notice 19 = .ok (.iload_n 2, 1) := by decide +kernel
theorem dX4_notice_20 : decode cX4_notice 20 = .ok (.ifCond .lt 8, 3) := by decide +kernel
theorem dX4_notice_23 : decode cX4_notice 23 = .ok (.iload_n 2, 1) := by decide +kernel
theorem dX4_notice_24 : decode cX4_notice 24 = .ok (.iconst 1, 1) := by decide +kernel
theorem dX4_notice_25 : decode cX4_notice 25 = .ok (.if_icmp .le 5, 3) := by decide +kernel
theorem dX4_notice_28 : decode cX4_notice 28 = .ok (.iconst (-1), 1) := by decide +kernel
theorem dX4_notice_29 : decode cX4_notice 29 = .ok (.ireturn, 1) := by decide +kernel
theorem dX4_notice_30 : decode cX4_notice 30 = .ok (.iload_n 2, 1) := by decide +kernel
theorem dX4_notice_31 : decode cX4_notice 31 = .ok (.ifCond .ne 12, 3) := by decide +kernel
theorem dX4_notice_34 : decode cX4_notice 34 = .ok (.aload_n 0, 1) := by decide +kernel
theorem dX4_notice_35 : decode cX4_notice 35 = .ok (.getfield 68, 3) := by decide +kernel
theorem dX4_notice_38 : decode cX4_notice 38 = .ok (.iload_n 1, 1) := by decide +kernel
theorem dX4_notice_39 : decode cX4_notice 39 = .ok (.iaload, 1) := by decide +kernel
theorem dX4_notice_40 : decode cX4_notice 40 = .ok (.goto 9, 3) := by decide +kernel
theorem dX4_notice_43 : decode cX4_notice 43 = .ok (.aload_n 0, 1) := by decide +kernel
theorem dX4_notice_44 : decode cX4_notice 44 = .ok (.getfield 71, 3) := by decide +kernel
theorem dX4_notice_47 : decode cX4_notice 47 = .ok (.iload_n 1, 1) := by decide +kernel
theorem dX4_notice_48 : decode cX4_notice 48 = .ok (.iaload, 1) := by decide +kernel
theorem dX4_notice_49 : decode cX4_notice 49 = .ok (.ireturn, 1) := by decide +kernel
set_option maxRecDepth 20000 in
theorem ggX4_paid_X4_delayOf : GoodIn wsX4_paid wsX4_delayOf := goodIn_r _ [9, 10, 11, 12, 13, 8, 14, 15, 16, 17, 18, 19, 20, 21, 22, 23, 24, 25, 26, 27, 28, 29, 30, 31, 32, 33, 34, 35, 36, 37, 38, 39, 40, 41] (by decide +kernel) (by decide +kernel)
set_option maxRecDepth 20000 in
theorem gX4_paid_X4_delayOf : GoodIn wsX4_paid (wsV RX4 122 RX4 yX4_delayOf wsX4_delayOf) := goodIn_app (goodIn_of _ (by decide +kernel)) ggX4_paid_X4_delayOf
theorem dX4_paid_0 : decode cX4_paid 0 = .ok (.lconst 0, 1) := by decide +kernel
theorem dX4_paid_1 : decode cX4_paid 1 = .ok (.lstore_n 2, 1) := by decide +kernel
theorem dX4_paid_2 : decode cX4_paid 2 = .ok (.iconst 0, 1) := by decide +kernel
theorem dX4_paid_3 : decode cX4_paid 3 = .ok (.istore 4, 2) := by decide +kernel
theorem dX4_paid_5 : decode cX4_paid 5 = .ok (.iload 4, 2) := by decide +kernel
theorem dX4_paid_7 : decode cX4_paid 7 = .ok (.aload_n 0, 1) := by decide +kernel
theorem dX4_paid_8 : decode cX4_paid 8 = .ok (.getfield 78, 3) := by decide +kernel
theorem dX4_paid_11 : decode cX4_paid 11 = .ok (.if_icmp .ge 57, 3) := by decide +kernel
theorem dX4_paid_14 : decode cX4_paid 14 = .ok (.iload_n 1, 1) := by decide +kernel
theorem dX4_paid_15 : decode cX4_paid 15 = .ok (.iconst (-1), 1) := by decide +kernel
theorem dX4_paid_16 : decode cX4_paid 16 = .ok (.if_icmp .eq 9, 3) := by decide +kernel
theorem dX4_paid_19 : decode cX4_paid 19 = .ok (.iload_n 1, 1) := by decide +kernel
theorem dX4_paid_20 : decode cX4_paid 20 = .ok (.iload 4, 2) := by decide +kernel
theorem dX4_paid_22 : decode cX4_paid 22 = .ok (.if_icmp .ne 40, 3) := by decide +kernel
theorem dX4_paid_25 : decode cX4_paid 25 = .ok (.aload_n 0, 1) := by decide +kernel
theorem dX4_paid_26 : decode cX4_paid 26 = .ok (.getfield 44, 3) := by decide +kernel
theorem dX4_paid_29 : decode cX4_paid 29 = .ok (.iload 4, 2) := by decide +kernel
theorem dX4_paid_31 : decode cX4_paid 31 = .ok (.iaload, 1) := by decide +kernel
theorem dX4_paid_32 : decode cX4_paid 32 = .ok (.iconst (-1), 1) := by decide +kernel
theorem dX4_paid_33 : decode cX4_paid 33 = .ok (.if_icmp .eq 29, 3) := by decide +kernel
theorem dX4_paid_36 : decode cX4_paid 36 = .ok (.lload_n 2, 1) := by decide +kernel
theorem dX4_paid_37 : decode cX4_paid 37 = .ok (.aload_n 0, 1) := by decide +kernel
theorem dX4_paid_38 : decode cX4_paid 38 = .ok (.iload 4, 2) := by decide +kernel
theorem dX4_paid_40 : decode cX4_paid 40 = .ok (.aload_n 0, 1) := by decide +kernel
theorem dX4_paid_41 : decode cX4_paid 41 = .ok (.getfield 44, 3) := by decide +kernel
theorem dX4_paid_44 : decode cX4_paid 44 = .ok (.iload 4, 2) := by decide +kernel
theorem dX4_paid_46 : decode cX4_paid 46 = .ok (.iaload, 1) := by decide +kernel
theorem dX4_paid_47 : decode cX4_paid 47 = .ok (.invokevirtual 122, 3) := by decide +kernel
theorem dX4_paid_50 : decode cX4_paid 50 = .ok (.i2l, 1) := by decide +kernel
theorem dX4_paid_51 : decode cX4_paid 51 = .ok (.aload_n 0, 1) := by decide +kernel
theorem dX4_paid_52 : decode cX4_paid 52 = .ok (.getfield 94, 3) := by decide +kernel
theorem dX4_paid_55 : decode cX4_paid 55 = .ok (.lmul, 1) := by decide +kernel
theorem dX4_paid_56 : decode cX4_paid 56 = .ok (.ldc2_w 148, 3) := by decide +kernel
theorem dX4_paid_59 : decode cX4_paid 59 = .ok (.ldiv, 1) := by decide +kernel
theorem dX4_paid_60 : decode cX4_paid 60 = .ok (.ladd, 1) := by decide +kernel
theorem dX4_paid_61 : decode cX4_paid 61 = .ok (.lstore_n 2, 1) := by decide +kernel
theorem dX4_paid_62 : decode cX4_paid 62 = .ok (.iinc 4 1, 3) := by decide +kernel
theorem dX4_paid_65 : decode cX4_paid 65 = .ok (.goto (-60), 3) := by decide +kernel
theorem dX4_paid_68 : decode cX4_paid 68 = .ok (.lload_n 2, 1) := by decide +kernel
theorem dX4_paid_69 : decode cX4_paid 69 = .ok (.lreturn, 1) := by decide +kernel
set_option maxRecDepth 20000 in
theorem ggX4_open_X4_isHour : GoodIn wsX4_open wsX4_isHour := goodIn_r _ [7, 8, 15, 16, 17, 18, 19, 20, 21, 22, 23, 24, 25, 26, 27, 28, 29, 30, 31, 32, 33, 34, 35, 36, 37, 38, 39] (by decide +kernel) (by decide +kernel)
set_option maxRecDepth 20000 in
theorem gX4_open_X4_isHour : GoodIn wsX4_open (wsV RX4 89 RX4 yX4_isHour wsX4_isHour) := goodIn_app (goodIn_of _ (by decide +kernel)) ggX4_open_X4_isHour
set_option maxRecDepth 20000 in
theorem ggX4_open_X4_span : GoodIn wsX4_open wsX4_span := goodIn_r _ [12, 13, 14, 15, 16, 17, 18, 19, 20, 21, 22, 23, 24, 25, 26, 27, 28, 29, 30, 31, 32, 33, 34, 35, 36, 37, 38, 39] (by decide +kernel) (by decide +kernel)
set_option maxRecDepth 20000 in
theorem gX4_open_X4_span : GoodIn wsX4_open (wsV RX4 98 RX4 yX4_span wsX4_span) := goodIn_app (goodIn_of _ (by decide +kernel)) ggX4_open_X4_span
theorem dX4_open_0 : decode cX4_open 0 = .ok (.aload_n 0, 1) := by decide +kernel
theorem dX4_open_1 : decode cX4_open 1 = .ok (.iload_n 1, 1) := by decide +kernel
theorem dX4_open_2 : decode cX4_open 2 = .ok (.invokevirtual 89, 3) := by decide +kernel
theorem dX4_open_5 : decode cX4_open 5 = .ok (.ifCond .ne 5, 3) := by decide +kernel
theorem dX4_open_8 : decode cX4_open 8 = .ok (.iconst (-1), 1) := by decide +kernel
theorem dX4_open_9 : decode cX4_open 9 = .ok (.ireturn, 1) := by decide +kernel
theorem dX4_open_10 : decode cX4_open 10 = .ok (.iconst 0, 1) := by decide +kernel
theorem dX4_open_11 : decode cX4_open 11 = .ok (.istore_n 2, 1) := by decide +kernel
theorem dX4_open_12 : decode cX4_open 12 = .ok (.iconst 0, 1) := by decide +kernel
theorem dX4_open_13 : decode cX4_open 13 = .ok (.istore_n 3, 1) := by decide +kernel
theorem dX4_open_14 : decode cX4_open 14 = .ok (.iload_n 3, 1) := by decide +kernel
theorem dX4_open_15 : decode cX4_open 15 = .ok (.aload_n 0, 1) := by decide +kernel
theorem dX4_open_16 : decode cX4_open 16 = .ok (.getfield 78, 3) := by decide +kernel
theorem dX4_open_19 : decode cX4_open 19 = .ok (.if_icmp .ge 53, 3) := by decide +kernel
theorem dX4_open_22 : decode cX4_open 22 = .ok (.iload_n 2, 1) := by decide +kernel
theorem dX4_open_23 : decode cX4_open 23 = .ok (.aload_n 0, 1) := by decide +kernel
theorem dX4_open_24 : decode cX4_open 24 = .ok (.getfield 44, 3) := by decide +kernel
theorem dX4_open_27 : decode cX4_open 27 = .ok (.iload_n 3, 1) := by decide +kernel
theorem dX4_open_28 : decode cX4_open 28 = .ok (.iaload, 1) := by decide +kernel
theorem dX4_open_29 : decode cX4_open 29 = .ok (.iconst (-1), 1) := by decide +kernel
theorem dX4_open_30 : decode cX4_open 30 = .ok (.if_icmp .eq 33, 3) := by decide +kernel
theorem dX4_open_33 : decode cX4_open 33 = .ok (.aload_n 0, 1) := by decide +kernel
theorem dX4_open_34 : decode cX4_open 34 = .ok (.getfield 44, 3) := by decide +kernel
theorem dX4_open_37 : decode cX4_open 37 = .ok (.iload_n 3, 1) := by decide +kernel
theorem dX4_open_38 : decode cX4_open 38 = .ok (.iaload, 1) := by decide +kernel
theorem dX4_open_39 : decode cX4_open 39 = .ok (.iload_n 1, 1) := by decide +kernel
theorem dX4_open_40 : decode cX4_open 40 = .ok (.if_icmp .gt 23, 3) := by decide +kernel
theorem dX4_open_43 : decode cX4_open 43 = .ok (.iload_n 1, 1) := by decide +kernel
theorem dX4_open_44 : decode cX4_open 44 = .ok (.aload_n 0, 1) := by decide +kernel
theorem dX4_open_45 : decode cX4_open 45 = .ok (.getfield 44, 3) := by decide +kernel
theorem dX4_open_48 : decode cX4_open 48 = .ok (.iload_n 3, 1) := by decide +kernel
theorem dX4_open_49 : decode cX4_open 49 = .ok (.iaload, 1) := by decide +kernel
theorem dX4_open_50 : decode cX4_open 50 = .ok (.aload_n 0, 1) := by decide +kernel
theorem dX4_open_51 : decode cX4_open 51 = .ok (.iload_n 3, 1) := by decide +kernel
theorem dX4_open_52 : decode cX4_open 52 = .ok (.invokevirtual 98, 3) := by decide +kernel
theorem dX4_open_55 : decode cX4_open 55 = .ok (.iadd, 1) := by decide +kernel
theorem dX4_open_56 : decode cX4_open 56 = .ok (.if_icmp .ge 7, 3) := by decide +kernel
theorem dX4_open_59 : decode cX4_open 59 = .ok (.iconst 1, 1) := by decide +kernel
theorem dX4_open_60 : decode cX4_open 60 = .ok (.goto 4, 3) := by decide +kernel
theorem dX4_open_63 : decode cX4_open 63 = .ok (.iconst 0, 1) := by decide +kernel
theorem dX4_open_64 : decode cX4_open 64 = .ok (.iadd, 1) := by decide +kernel
theorem dX4_open_65 : decode cX4_open 65 = .ok (.istore_n 2, 1) := by decide +kernel
theorem dX4_open_66 : decode cX4_open 66 = .ok (.iinc 3 1, 3) := by decide +kernel
theorem dX4_open_69 : decode cX4_open 69 = .ok (.goto (-55), 3) := by decide +kernel
theorem dX4_open_72 : decode cX4_open 72 = .ok (.iload_n 2, 1) := by decide +kernel
theorem dX4_open_73 : decode cX4_open 73 = .ok (.ireturn, 1) := by decide +kernel
set_option maxRecDepth 20000 in
theorem ggX4_holds_X4_breaks : GoodIn wsX4_holds wsX4_breaks := goodIn_r _ [7, 1, 2, 8, 9, 10, 6, 11, 12, 13, 14, 15, 16, 17, 18, 19, 20, 21, 22, 23, 24, 25, 26, 27, 28, 29, 30, 31, 32, 33, 34, 35, 36, 37, 38, 39, 40, 41, 42, 43, 44, 45, 46, 47, 48, 49, 50, 51, 52, 53, 54, 55, 56, 57, 58] (by decide +kernel) (by decide +kernel)
set_option maxRecDepth 20000 in
theorem gX4_holds_X4_breaks : GoodIn wsX4_holds (wsV RX4 119 RX4 yX4_breaks wsX4_breaks) := goodIn_app (goodIn_of _ (by decide +kernel)) ggX4_holds_X4_breaks
theorem dX4_holds_0 : decode cX4_holds 0 = .ok (.iconst 1, 1) := by decide +kernel
theorem dX4_holds_1 : decode cX4_holds 1 = .ok (.istore_n 1, 1) := by decide +kernel
theorem dX4_holds_2 : decode cX4_holds 2 = .ok (.iconst 0, 1) := by decide +kernel
theorem dX4_holds_3 : decode cX4_holds 3 = .ok (.istore_n 2, 1) := by decide +kernel
theorem dX4_holds_4 : decode cX4_holds 4 = .ok (.iload_n 2, 1) := by decide +kernel
theorem dX4_holds_5 : decode cX4_holds 5 = .ok (.aload_n 0, 1) := by decide +kernel
theorem dX4_holds_6 : decode cX4_holds 6 = .ok (.getfield 78, 3) := by decide +kernel
theorem dX4_holds_9 : decode cX4_holds 9 = .ok (.if_icmp .ge 43, 3) := by decide +kernel
theorem dX4_holds_12 : decode cX4_holds 12 = .ok (.iload_n 1, 1) := by decide +kernel
theorem dX4_holds_13 : decode cX4_holds 13 = .ok (.ifCond .eq 31, 3) := by decide +kernel
theorem dX4_holds_16 : decode cX4_holds 16 = .ok (.aload_n 0, 1) := by decide +kernel
theorem dX4_holds_17 : decode cX4_holds 17 = .ok (.getfield 44, 3) := by decide +kernel
theorem dX4_holds_20 : decode cX4_holds 20 = .ok (.iload_n 2, 1) := by decide +kernel
theorem dX4_holds_21 : decode cX4_holds 21 = .ok (.iaload, 1) := by decide +kernel
theorem dX4_holds_22 : decode cX4_holds 22 = .ok (.iconst (-1), 1) := by decide +kernel
theorem dX4_holds_23 : decode cX4_holds 23 = .ok (.if_icmp .eq 17, 3) := by decide +kernel
theorem dX4_holds_26 : decode cX4_holds 26 = .ok (.aload_n 0, 1) := by decide +kernel
theorem dX4_holds_27 : decode cX4_holds 27 = .ok (.iload_n 2, 1) := by decide +kernel
theorem dX4_holds_28 : decode cX4_holds 28 = .ok (.aload_n 0, 1) := by decide +kernel
theorem dX4_holds_29 : decode cX4_holds 29 = .ok (.getfield 44, 3) := by decide +kernel
theorem dX4_holds_32 : decode cX4_holds 32 = .ok (.iload_n 2, 1) := by decide +kernel
theorem dX4_holds_33 : decode cX4_holds 33 = .ok (.iaload, 1) := by decide +kernel
theorem dX4_holds_34 : decode cX4_holds 34 = .ok (.invokevirtual 119, 3) := by decide +kernel
theorem dX4_holds_37 : decode cX4_holds 37 = .ok (.ifCond .ne 7, 3) := by decide +kernel
theorem dX4_holds_40 : decode cX4_holds 40 = .ok (.iconst 1, 1) := by decide +kernel
theorem dX4_holds_41 : decode cX4_holds 41 = .ok (.goto 4, 3) := by decide +kernel
theorem dX4_holds_44 : decode cX4_holds 44 = .ok (.iconst 0, 1) := by decide +kernel
theorem dX4_holds_45 : decode cX4_holds 45 = .ok (.istore_n 1, 1) := by decide +kernel
theorem dX4_holds_46 : decode cX4_holds 46 = .ok (.iinc 2 1, 3) := by decide +kernel
theorem dX4_holds_49 : decode cX4_holds 49 = .ok (.goto (-45), 3) := by decide +kernel
theorem dX4_holds_52 : decode cX4_holds 52 = .ok (.iload_n 1, 1) := by decide +kernel
theorem dX4_holds_53 : decode cX4_holds 53 = .ok (.ireturn, 1) := by decide +kernel
set_option maxRecDepth 20000 in
theorem ggX4_count_X4_placedCount : GoodIn wsX4_count wsX4_placedCount := goodIn_r _ [8, 2, 9, 10, 11, 12, 13, 14, 15, 16, 17, 18, 19, 20, 21, 22, 23, 24, 25, 26, 27, 28, 29, 30, 31, 32, 33, 34] (by decide +kernel) (by decide +kernel)
set_option maxRecDepth 20000 in
theorem gX4_count_X4_placedCount : GoodIn wsX4_count (wsV RX4 144 RX4 yX4_placedCount wsX4_placedCount) := goodIn_app (goodIn_of _ (by decide +kernel)) ggX4_count_X4_placedCount
theorem dX4_count_0 : decode cX4_count 0 = .ok (.iload_n 1, 1) := by decide +kernel
theorem dX4_count_1 : decode cX4_count 1 = .ok (.ifCond .ne 10, 3) := by decide +kernel
theorem dX4_count_4 : decode cX4_count 4 = .ok (.aload_n 0, 1) := by decide +kernel
theorem dX4_count_5 : decode cX4_count 5 = .ok (.getfield 74, 3) := by decide +kernel
theorem dX4_count_8 : decode cX4_count 8 = .ok (.goto 40, 3) := by decide +kernel
theorem dX4_count_11 : decode cX4_count 11 = .ok (.iload_n 1, 1) := by decide +kernel
theorem dX4_count_12 : decode cX4_count 12 = .ok (.iconst 1, 1) := by decide +kernel
theorem dX4_count_13 : decode cX4_count 13 = .ok (.if_icmp .ne 10, 3) := by decide +kernel
theorem dX4_count_16 : decode cX4_count 16 = .ok (.aload_n 0, 1) := by decide +kernel
theorem dX4_count_17 : decode cX4_count 17 = .ok (.getfield 78, 3) := by decide +kernel
theorem dX4_count_20 : decode cX4_count 20 = .ok (.goto 28, 3) := by decide +kernel
theorem dX4_count_23 : decode cX4_count 23 = .ok (.iload_n 1, 1) := by decide +kernel
theorem dX4_count_24 : decode cX4_count 24 = .ok (.iconst 2, 1) := by decide +kernel
theorem dX4_count_25 : decode cX4_count 25 = .ok (.if_icmp .ne 10, 3) := by decide +kernel
theorem dX4_count_28 : decode cX4_count 28 = .ok (.aload_n 0, 1) := by decide +kernel
theorem dX4_count_29 : decode cX4_count 29 = .ok (.invokevirtual 144, 3) := by decide +kernel
theorem dX4_count_32 : decode cX4_count 32 = .ok (.goto 16, 3) := by decide +kernel
theorem dX4_count_35 : decode cX4_count 35 = .ok (.iload_n 1, 1) := by decide +kernel
theorem dX4_count_36 : decode cX4_count 36 = .ok (.iconst 3, 1) := by decide +kernel
theorem dX4_count_37 : decode cX4_count 37 = .ok (.if_icmp .ne 10, 3) := by decide +kernel
theorem dX4_count_40 : decode cX4_count 40 = .ok (.aload_n 0, 1) := by decide +kernel
theorem dX4_count_41 : decode cX4_count 41 = .ok (.getfield 113, 3) := by decide +kernel
theorem dX4_count_44 : decode cX4_count 44 = .ok (.goto 4, 3) := by decide +kernel
theorem dX4_count_47 : decode cX4_count 47 = .ok (.iconst (-1), 1) := by decide +kernel
theorem dX4_count_48 : decode cX4_count 48 = .ok (.ireturn, 1) := by decide +kernel
theorem dJ9_max_7cf53_0 : decode cJ9_max_7cf53 0 = .ok (.iload_n 0, 1) := by decide +kernel
theorem dJ9_max_7cf53_1 : decode cJ9_max_7cf53 1 = .ok (.iload_n 1, 1) := by decide +kernel
theorem dJ9_max_7cf53_2 : decode cJ9_max_7cf53 2 = .ok (.if_icmp .lt 7, 3) := by decide +kernel
theorem dJ9_max_7cf53_5 : decode cJ9_max_7cf53 5 = .ok (.iload_n 0, 1) := by decide +kernel
theorem dJ9_max_7cf53_6 : decode cJ9_max_7cf53 6 = .ok (.goto 4, 3) := by decide +kernel
theorem dJ9_max_7cf53_9 : decode cJ9_max_7cf53 9 = .ok (.iload_n 1, 1) := by decide +kernel
theorem dJ9_max_7cf53_10 : decode cJ9_max_7cf53 10 = .ok (.ireturn, 1) := by decide +kernel
theorem dJ9_min_7cf53_0 : decode cJ9_min_7cf53 0 = .ok (.iload_n 0, 1) := by decide +kernel
theorem dJ9_min_7cf53_1 : decode cJ9_min_7cf53 1 = .ok (.iload_n 1, 1) := by decide +kernel
theorem dJ9_min_7cf53_2 : decode cJ9_min_7cf53 2 = .ok (.if_icmp .gt 7, 3) := by decide +kernel
theorem dJ9_min_7cf53_5 : decode cJ9_min_7cf53 5 = .ok (.iload_n 0, 1) := by decide +kernel
theorem dJ9_min_7cf53_6 : decode cJ9_min_7cf53 6 = .ok (.goto 4, 3) := by decide +kernel
theorem dJ9_min_7cf53_9 : decode cJ9_min_7cf53 9 = .ok (.iload_n 1, 1) := by decide +kernel
theorem dJ9_min_7cf53_10 : decode cJ9_min_7cf53 10 = .ok (.ireturn, 1) := by decide +kernel
