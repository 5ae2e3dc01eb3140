theorem dX6_does_4 : decode cX6_does 4 = .ok (.iload_n 1, 1) := by decide +kernel
theorem dX6_does_5 : decode cX6_does 5 = .ok (.iaload, 1) := by decide +kernel
theorem dX6_does_6 : decode cX6_does 6 = .ok (.istore_n 3, 1) := by decide +kernel
theorem dX6_does_7 : decode cX6_does 7 = .ok (.aload_n 0, 1) := by decide +kernel
theorem dX6_does_8 : decode cX6_does 8 = .ok (.getfield 34, 3) := by decide +kernel
theorem dX6_does_11 : decode cX6_does 11 = .ok (.iload_n 1, 1) := by decide +kernel
theorem dX6_does_12 : decode cX6_does 12 = .ok (.iaload, 1) := by decide +kernel
theorem dX6_does_13 : decode cX6_does 13 = .ok (.tableswitch 309 0 17 #[87, 103, 137, 171, 309, 309, 309, 309, 300, 300, 300, 300, 309, 309, 246, 254, 279, 292], 87) := by decide +kernel
theorem dX6_does_100 : decode cX6_does 100 = .ok (.aload_n 0, 1) := by decide +kernel
theorem dX6_does_101 : decode cX6_does 101 = .ok (.getfield 71, 3) := by decide +kernel
theorem dX6_does_104 : decode cX6_does 104 = .ok (.iload_n 3, 1) := by decide +kernel
theorem dX6_does_105 : decode cX6_does 105 = .ok (.aload_n 0, 1) := by decide +kernel
theorem dX6_does_106 : decode cX6_does 106 = .ok (.getfield 40, 3) := by decide +kernel
theorem dX6_does_109 : decode cX6_does 109 = .ok (.iload_n 1, 1) := by decide +kernel
theorem dX6_does_110 : decode cX6_does 110 = .ok (.laload, 1) := by decide +kernel
theorem dX6_does_111 : decode cX6_does 111 = .ok (.lastore, 1) := by decide +kernel
theorem dX6_does_112 : decode cX6_does 112 = .ok (.iload_n 2, 1) := by decide +kernel
theorem dX6_does_113 : decode cX6_does 113 = .ok (.iconst 1, 1) := by decide +kernel
theorem dX6_does_114 : decode cX6_does 114 = .ok (.iadd, 1) := by decide +kernel
theorem dX6_does_115 : decode cX6_does 115 = .ok (.ireturn, 1) := by decide +kernel
theorem dX6_does_116 : decode cX6_does 116 = .ok (.aload_n 0, 1) := by decide +kernel
theorem dX6_does_117 : decode cX6_does 117 = .ok (.getfield 71, 3) := by decide +kernel
theorem dX6_does_120 : decode cX6_does 120 = .ok (.iload_n 3, 1) := by decide +kernel
theorem dX6_does_121 : decode cX6_does 121 = .ok (.aload_n 0, 1) := by decide +kernel
theorem dX6_does_122 : decode cX6_does 122 = .ok (.getfield 71, 3) := by decide +kernel
theorem dX6_does_125 : decode cX6_does 125 = .ok (.aload_n 0, 1) := by decide +kernel
theorem dX6_does_126 : decode cX6_does 126 = .ok (.getfield 40, 3) := by decide +kernel
theorem dX6_does_129 : decode cX6_does 129 = .ok (.iload_n 1, 1) := by decide +kernel
theorem dX6_does_130 : decode cX6_does 130 = .ok (.laload, 1) := by decide +kernel
theorem dX6_does_131 : decode cX6_does 131 = .ok (.l2i, 1) := by decide +kernel
theorem dX6_does_132 : decode cX6_does 132 = .ok (.laload, 1) := by decide +kernel
theorem dX6_does_133 : decode cX6_does 133 = .ok (.aload_n 0, 1) := by decide +kernel
theorem dX6_does_134 : decode cX6_does 134 = .ok (.getfield 71, 3) := by decide +kernel
theorem dX6_does_137 : decode cX6_does 137 = .ok (.aload_n 0, 1) := by decide +kernel
theorem dX6_does_138 : decode cX6_does 138 = .ok (.getfield 43, 3) := by decide +kernel
theorem dX6_does_141 : decode cX6_does 141 = .ok (.iload_n 1, 1) := by decide +kernel
theorem dX6_does_142 : decode cX6_does 142 = .ok (.iaload, 1) := by decide +kernel
theorem dX6_does_143 : decode cX6_does 143 = .ok (.laload, 1) := by decide +kernel
theorem dX6_does_144 : decode cX6_does 144 = .ok (.ladd, 1) := by decide +kernel
theorem dX6_does_145 : decode cX6_does 145 = .ok (.lastore, 1) := by decide +kernel
theorem dX6_does_146 : decode cX6_does 146 = .ok (.iload_n 2, 1) := by decide +kernel
theorem dX6_does_147 : decode cX6_does 147 = .ok (.iconst 1, 1) := by decide +kernel
theorem dX6_does_148 : decode cX6_does 148 = .ok (.iadd, 1) := by decide +kernel
theorem dX6_does_149 : decode cX6_does 149 = .ok (.ireturn, 1) := by decide +kernel
theorem dX6_does_150 : decode cX6_does 150 = .ok (.aload_n 0, 1) := by decide +kernel
theorem dX6_does_151 : decode cX6_does 151 = .ok (.getfield 71, 3) := by decide +kernel
theorem dX6_does_154 : decode cX6_does 154 = .ok (.iload_n 3, 1) := by decide +kernel
theorem dX6_does_155 : decode cX6_does 155 = .ok (.aload_n 0, 1) := by decide +kernel
theorem dX6_does_156 : decode cX6_does 156 = .ok (.getfield 71, 3) := by decide +kernel
theorem dX6_does_159 : decode cX6_does 159 = .ok (.aload_n 0, 1) := by decide +kernel
theorem dX6_does_160 : decode cX6_does 160 = .ok (.getfield 40, 3) := by decide +kernel
theorem dX6_does_163 : decode cX6_does 163 = .ok (.iload_n 1, 1) := by decide +kernel
theorem dX6_does_164 : decode cX6_does 164 = .ok (.laload, 1) := by decide +kernel
theorem dX6_does_165 : decode cX6_does 165 = .ok (.l2i, 1) := by decide +kernel
theorem dX6_does_166 : decode cX6_does 166 = .ok (.laload, 1) := by decide +kernel
theorem dX6_does_167 : decode cX6_does 167 = .ok (.aload_n 0, 1) := by decide +kernel
theorem dX6_does_168 : decode cX6_does 168 = .ok (.getfield 71, 3) := by decide +kernel
theorem dX6_does_171 : decode cX6_does 171 = .ok (.aload_n 0, 1) := by decide +kernel
theorem dX6_does_172 : decode cX6_does 172 = .ok (.getfield 43, 3) := by decide +kernel
theorem dX6_does_175 : decode cX6_does 175 = .ok (.iload_n 1, 1) := by decide +kernel
theorem dX6_does_176 : decode cX6_does 176 = .ok (.iaload, 1) := by decide +kernel
theorem dX6_does_177 : decode cX6_does 177 = .ok (.laload, 1) := by decide +kernel
theorem dX6_does_178 : decode cX6_does 178 = .ok (.lsub, 1) := by decide +kernel
theorem dX6_does_179 : decode cX6_does 179 = .ok (.lastore, 1) := by decide +kernel
theorem dX6_does_180 : decode cX6_does 180 = .ok (.iload_n 2, 1) := by decide +kernel
theorem dX6_does_181 : decode cX6_does 181 = .ok (.iconst 1, 1) := by decide +kernel
theorem dX6_does_182 : decode cX6_does 182 = .ok (.iadd, 1) := by decide +kernel
theorem dX6_does_183 : decode cX6_does 183 = .ok (.ireturn, 1) := by decide +kernel
theorem dX6_does_184 : decode cX6_does 184 = .ok (.aload_n 0, 1) := by decide +kernel
theorem dX6_does_185 : decode cX6_does 185 = .ok (.aload_n 0, 1) := by decide +kernel
theorem dX6_does_186 : decode cX6_does 186 = .ok (.getfield 71, 3) := by decide +kernel
theorem dX6_does_189 : decode cX6_does 189 = .ok (.aload_n 0, 1) := by decide +kernel
theorem dX6_does_190 : decode cX6_does 190 = .ok (.getfield 43, 3) := by decide +kernel
theorem dX6_does_193 : decode cX6_does 193 = .ok (.iload_n 1, 1) := by decide +kernel
theorem dX6_does_194 : decode cX6_does 194 = .ok (.iaload, 1) := by decide +kernel
theorem dX6_does_195 : decode cX6_does 195 = .ok (.laload, 1) := by decide +kernel
theorem dX6_does_196 : decode cX6_does 196 = .ok (.lconst 0, 1) := by decide +kernel
theorem dX6_does_197 : decode cX6_does 197 = .ok (.lcmp, 1) := by decide +kernel
theorem dX6_does_198 : decode cX6_does 198 = .ok (.ifCond .ne 7, 3) := by decide +kernel
theorem dX6_does_201 : decode cX6_does 201 = .ok (.iconst 5, 1) := by decide +kernel
theorem dX6_does_202 : decode cX6_does 202 = .ok (.goto 4, 3) := by decide +kernel
theorem dX6_does_205 : decode cX6_does 205 = .ok (.iconst 0, 1) := by decide +kernel
theorem dX6_does_206 : decode cX6_does 206 = .ok (.putfield 155, 3) := by decide +kernel
theorem dX6_does_209 : decode cX6_does 209 = .ok (.aload_n 0, 1) := by decide +kernel
theorem dX6_does_210 : decode cX6_does 210 = .ok (.getfield 71, 3) := by decide +kernel
theorem dX6_does_213 : decode cX6_does 213 = .ok (.iload_n 3, 1) := by decide +kernel
theorem dX6_does_214 : decode cX6_does 214 = .ok (.aload_n 0, 1) := by decide +kernel
theorem dX6_does_215 : decode cX6_does 215 = .ok (.getfield 155, 3) := by decide +kernel
theorem dX6_does_218 : decode cX6_does 218 = .ok (.ifCond .le 12, 3) := by decide +kernel
theorem dX6_does_221 : decode cX6_does 221 = .ok (.aload_n 0, 1) := by decide +kernel
theorem dX6_does_222 : decode cX6_does 222 = .ok (.getfield 71, 3) := by decide +kernel
theorem dX6_does_225 : decode cX6_does 225 = .ok (.iload_n 3, 1) := by decide +kernel
theorem dX6_does_226 : decode cX6_does 226 = .ok (.laload, 1) := by decide +kernel
theorem dX6_does_227 : decode cX6_does 227 = .ok (.goto 27, 3) := by decide +kernel
theorem dX6_does_230 : decode cX6_does 230 = .ok (.aload_n 0, 1) := by decide +kernel
theorem dX6_does_231 : decode cX6_does 231 = .ok (.getfield 71, 3) := by decide +kernel
theorem dX6_does_234 : decode cX6_does 234 = .ok (.aload_n 0, 1) := by decide +kernel
theorem dX6_does_235 : decode cX6_does 235 = .ok (.getfield 40, 3) := by decide +kernel
theorem dX6_does_238 : decode cX6_does 238 = .ok (.iload_n 1, 1) := by decide +kernel
theorem dX6_does_239 : decode cX6_does 239 = .ok (.laload, 1) := by decide +kernel
theorem dX6_does_240 : decode cX6_does 240 = .ok (.l2i, 1) := by decide +kernel
theorem dX6_does_241 : decode cX6_does 241 = .ok (.laload, 1) := by decide +kernel
theorem dX6_does_242 : decode cX6_does 242 = .ok (.aload_n 0, 1) := by decide +kernel
theorem dX6_does_243 : decode cX6_does 243 = .ok (.getfield 71, 3) := by decide +kernel
theorem dX6_does_246 : decode cX6_does 246 = .ok (.aload_n 0, 1) := by decide +kernel
theorem dX6_does_247 : decode cX6_does 247 = .ok (.getfield 43, 3) := by decide +kernel
theorem dX6_does_250 : decode cX6_does 250 = .ok (.iload_n 1, 1) := by decide +kernel
theorem dX6_does_251 : decode cX6_does 251 = .ok (.iaload, 1) := by decide +kernel
theorem dX6_does_252 : decode cX6_does 252 = .ok (.laload, 1) := by decide +kernel
theorem dX6_does_253 : decode cX6_does 253 = .ok (.ldiv, 1) := by decide +kernel
theorem dX6_does_254 : decode cX6_does 254 = .ok (.lastore, 1) := by decide +kernel
theorem dX6_does_255 : decode cX6_does 255 = .ok (.iload_n 2, 1) := by decide +kernel
theorem dX6_does_256 : decode cX6_does 256 = .ok (.iconst 1, 1) := by decide +kernel
theorem dX6_does_257 : decode cX6_does 257 = .ok (.iadd, 1) := by decide +kernel
theorem dX6_does_258 : decode cX6_does 258 = .ok (.ireturn, 1) := by decide +kernel
theorem dX6_does_259 : decode cX6_does 259 = .ok (.aload_n 0, 1) := by decide +kernel
theorem dX6_does_260 : decode cX6_does 260 = .ok (.getfield 40, 3) := by decide +kernel
theorem dX6_does_263 : decode cX6_does 263 = .ok (.iload_n 1, 1) := by decide +kernel
theorem dX6_does_264 : decode cX6_does 264 = .ok (.laload, 1) := by decide +kernel
theorem dX6_does_265 : decode cX6_does 265 = .ok (.l2i, 1) := by decide +kernel
theorem dX6_does_266 : decode cX6_does 266 = .ok (.ireturn, 1) := by decide +kernel
theorem dX6_does_267 : decode cX6_does 267 = .ok (.aload_n 0, 1) := by decide +kernel
theorem dX6_does_268 : decode cX6_does 268 = .ok (.getfield 71, 3) := by decide +kernel
theorem dX6_does_271 : decode cX6_does 271 = .ok (.iload_n 3, 1) := by decide +kernel
theorem dX6_does_272 : decode cX6_does 272 = .ok (.laload, 1) := by decide +kernel
theorem dX6_does_273 : decode cX6_does 273 = .ok (.lconst 0, 1) := by decide +kernel
theorem dX6_does_274 : decode cX6_does 274 = .ok (.lcmp, 1) := by decide +kernel
theorem dX6_does_275 : decode cX6_does 275 = .ok (.ifCond .le 13, 3) := by decide +kernel
theorem dX6_does_278 : decode cX6_does 278 = .ok (.aload_n 0, 1) := by decide +kernel
theorem dX6_does_279 : decode cX6_does 279 = .ok (.getfield 40, 3) := by decide +kernel
theorem dX6_does_282 : decode cX6_does 282 = .ok (.iload_n 1, 1) := by decide +kernel
theorem dX6_does_283 : decode cX6_does 283 = .ok (.laload, 1) := by decide +kernel
theorem dX6_does_284 : decode cX6_does 284 = .ok (.l2i, 1) := by decide +kernel
theorem dX6_does_285 : decode cX6_does 285 = .ok (.goto 6, 3) := by decide +kernel
theorem dX6_does_288 : decode cX6_does 288 = .ok (.iload_n 2, 1) := by decide +kernel
theorem dX6_does_289 : decode cX6_does 289 = .ok (.iconst 1, 1) := by decide +kernel
theorem dX6_does_290 : decode cX6_does 290 = .ok (.iadd, 1) := by decide +kernel
theorem dX6_does_291 : decode cX6_does 291 = .ok (.ireturn, 1) := by decide +kernel
theorem dX6_does_292 : decode cX6_does 292 = .ok (.aload_n 0, 1) := by decide +kernel
theorem dX6_does_293 : decode cX6_does 293 = .ok (.aload_n 0, 1) := by decide +kernel
theorem dX6_does_294 : decode cX6_does 294 = .ok (.getfield 71, 3) := by decide +kernel
theorem dX6_does_297 : decode cX6_does 297 = .ok (.iload_n 3, 1) := by decide +kernel
theorem dX6_does_298 : decode cX6_does 298 = .ok (.laload, 1) := by decide +kernel
theorem dX6_does_299 : decode cX6_does 299 = .ok (.putfield 186, 3) := by decide +kernel
theorem dX6_does_302 : decode cX6_does 302 = .ok (.bipush 32, 2) := by decide +kernel
theorem dX6_does_304 : decode cX6_does 304 = .ok (.ireturn, 1) := by decide +kernel
theorem dX6_does_305 : decode cX6_does 305 = .ok (.aload_n 0, 1) := by decide +kernel
theorem dX6_does_306 : decode cX6_does 306 = .ok (.bipush 6, 2) := by decide +kernel
theorem dX6_does_308 : decode cX6_does 308 = .ok (.putfield 155, 3) := by decide +kernel
theorem dX6_does_311 : decode cX6_does 311 = .ok (.iload_n 2, 1) := by decide +kernel
theorem dX6_does_312 : decode cX6_does 312 = .ok (.ireturn, 1) := by decide +kernel
theorem dX6_does_313 : decode cX6_does 313 = .ok (.aload_n 0, 1) := by decide +kernel
theorem dX6_does_314 : decode cX6_does 314 = .ok (.iload_n 1, 1) := by decide +kernel
theorem dX6_does_315 : decode cX6_does 315 = .ok (.invokevirtual 190, 3) := by decide +kernel
theorem dX6_does_318 : decode cX6_does 318 = .ok (.iload_n 2, 1) := by decide +kernel
theorem dX6_does_319 : decode cX6_does 319 = .ok (.iconst 1, 1) := by decide +kernel
theorem dX6_does_320 : decode cX6_does 320 = .ok (.iadd, 1) := by decide +kernel
theorem dX6_does_321 : decode cX6_does 321 = .ok (.ireturn, 1) := by decide +kernel
theorem dX6_does_322 : decode cX6_does 322 = .ok (.aload_n 0, 1) := by decide +kernel
theorem dX6_does_323 : decode cX6_does 323 = .ok (.iload_n 1, 1) := by decide +kernel
theorem dX6_does_324 : decode cX6_does 324 = .ok (.invokevirtual 193, 3) := by decide +kernel
theorem dX6_does_327 : decode cX6_does 327 = .ok (.iload_n 2, 1) := by decide +kernel
theorem dX6_does_328 : decode cX6_does 328 = .ok (.iconst 1, 1) := by decide +kernel
theorem dX6_does_329 : decode cX6_does 329 = .ok (.iadd, 1) := by decide +kernel
theorem dX6_does_330 : decode cX6_does 330 = .ok (.ireturn, 1) := by decide +kernel
set_option maxRecDepth 20000 in
theorem ggX6_begin_X6_copyAll : GoodIn wsX6_begin wsX6_copyAll := goodIn_r _ [15, 16, 17, 18, 14, 19, 20, 21, 22, 23, 24, 25, 26, 27, 28, 29, 30, 31, 32, 33, 34, 35, 36, 37, 38, 39, 40, 41, 42, 43, 44, 45, 46, 47, 48, 49, 50, 51, 52] (by decide +kernel) (by decide +kernel)
set_option maxRecDepth 20000 in
theorem gX6_begin_X6_copyAll : GoodIn wsX6_begin (wsV RX6 107 RX6 yX6_copyAll wsX6_copyAll) := goodIn_app (goodIn_of _ (by decide +kernel)) ggX6_begin_X6_copyAll
theorem dX6_begin_0 : decode cX6_begin 0 = .ok (.aload_n 0, 1) := by decide +kernel
theorem dX6_begin_1 : decode cX6_begin 1 = .ok (.lconst 0, 1) := by decide +kernel
theorem dX6_begin_2 : decode cX6_begin 2 = .ok (.putfield 186, 3) := by decide +kernel
theorem dX6_begin_5 : decode cX6_begin 5 = .ok (.aload_n 0, 1) := by decide +kernel
theorem dX6_begin_6 : decode cX6_begin 6 = .ok (.bipush (-3), 2) := by decide +kernel
theorem dX6_begin_8 : decode cX6_begin 8 = .ok (.putfield 52, 3) := by decide +kernel
theorem dX6_begin_11 : decode cX6_begin 11 = .ok (.aload_n 0, 1) := by decide +kernel
theorem dX6_begin_12 : decode cX6_begin 12 = .ok (.iconst 0, 1) := by decide +kernel
theorem dX6_begin_13 : decode cX6_begin 13 = .ok (.putfield 152, 3) := by decide +kernel
theorem dX6_begin_16 : decode cX6_begin 16 = .ok (.aload_n 0, 1) := by decide +kernel
theorem dX6_begin_17 : decode cX6_begin 17 = .ok (.iconst 0, 1) := by decide +kernel
theorem dX6_begin_18 : decode cX6_begin 18 = .ok (.putfield 196, 3) := by decide +kernel
theorem dX6_begin_21 : decode cX6_begin 21 = .ok (.aload_n 0, 1) := by decide +kernel
theorem dX6_begin_22 : decode cX6_begin 22 = .ok (.iconst 0, 1) := by decide +kernel
theorem dX6_begin_23 : decode cX6_begin 23 = .ok (.putfield 199, 3) := by decide +kernel
theorem dX6_begin_26 : decode cX6_begin 26 = .ok (.aload_n 0, 1) := by decide +kernel
theorem dX6_begin_27 : decode cX6_begin 27 = .ok (.iconst 0, 1) := by decide +kernel
theorem dX6_begin_28 : decode cX6_begin 28 = .ok (.putfield 155, 3) := by decide +kernel
theorem dX6_begin_31 : decode cX6_begin 31 = .ok (.iconst 0, 1) := by decide +kernel
theorem dX6_begin_32 : decode cX6_begin 32 = .ok (.istore 4, 2) := by decide +kernel
theorem dX6_begin_34 : decode cX6_begin 34 = .ok (.iload 4, 2) := by decide +kernel
theorem dX6_begin_36 : decode cX6_begin 36 = .ok (.bipush 24, 2) := by decide +kernel
theorem dX6_begin_38 : decode cX6_begin 38 = .ok (.if_icmp .ge 17, 3) := by decide +kernel
theorem dX6_begin_41 : decode cX6_begin 41 = .ok (.aload_n 0, 1) := by decide +kernel
theorem dX6_begin_42 : decode cX6_begin 42 = .ok (.getfield 65, 3) := by decide +kernel
theorem dX6_begin_45 : decode cX6_begin 45 = .ok (.iload 4, 2) := by decide +kernel
theorem dX6_begin_47 : decode cX6_begin 47 = .ok (.iconst 0, 1) := by decide +kernel
theorem dX6_begin_48 : decode cX6_begin 48 = .ok (.bastore, 1) := by decide +kernel
theorem dX6_begin_49 : decode cX6_begin 49 = .ok (.iinc 4 1, 3) := by decide +kernel
theorem dX6_begin_52 : decode cX6_begin 52 = .ok (.goto (-18), 3) := by decide +kernel
theorem dX6_begin_55 : decode cX6_begin 55 = .ok (.iconst 0, 1) := by decide +kernel
theorem dX6_begin_56 : decode cX6_begin 56 = .ok (.istore 4, 2) := by decide +kernel
theorem dX6_begin_58 : decode cX6_begin 58 = .ok (.iload 4, 2) := by decide +kernel
theorem dX6_begin_60 : decode cX6_begin 60 = .ok (.iconst 4, 1) := by decide +kernel
theorem dX6_begin_61 : decode cX6_begin 61 = .ok (.if_icmp .ge 26, 3) := by decide +kernel
theorem dX6_begin_64 : decode cX6_begin 64 = .ok (.aload_n 0, 1) := by decide +kernel
theorem dX6_begin_65 : decode cX6_begin 65 = .ok (.getfield 68, 3) := by decide +kernel
theorem dX6_begin_68 : decode cX6_begin 68 = .ok (.iload 4, 2) := by decide +kernel
theorem dX6_begin_70 : decode cX6_begin 70 = .ok (.bipush (-3), 2) := by decide +kernel
theorem dX6_begin_72 : decode cX6_begin 72 = .ok (.iastore, 1) := by decide +kernel
theorem dX6_begin_73 : decode cX6_begin 73 = .ok (.aload_n 0, 1) := by decide +kernel
theorem dX6_begin_74 : decode cX6_begin 74 = .ok (.getfield 71, 3) := by decide +kernel
theorem dX6_begin_77 : decode cX6_begin 77 = .ok (.iload 4, 2) := by decide +kernel
theorem dX6_begin_79 : decode cX6_begin 79 = .ok (.lconst 0, 1) := by decide +kernel
theorem dX6_begin_80 : decode cX6_begin 80 = .ok (.lastore, 1) := by decide +kernel
theorem dX6_begin_81 : decode cX6_begin 81 = .ok (.iinc 4 1, 3) := by decide +kernel
theorem dX6_begin_84 : decode cX6_begin 84 = .ok (.goto (-26), 3) := by decide +kernel
theorem dX6_begin_87 : decode cX6_begin 87 = .ok (.aload_n 0, 1) := by decide +kernel
theorem dX6_begin_88 : decode cX6_begin 88 = .ok (.getfield 68, 3) := by decide +kernel
theorem dX6_begin_91 : decode cX6_begin 91 = .ok (.iconst 0, 1) := by decide +kernel
theorem dX6_begin_92 : decode cX6_begin 92 = .ok (.iload_n 1, 1) := by decide +kernel
theorem dX6_begin_93 : decode cX6_begin 93 = .ok (.iastore, 1) := by decide +kernel
theorem dX6_begin_94 : decode cX6_begin 94 = .ok (.aload_n 0, 1) := by decide +kernel
theorem dX6_begin_95 : decode cX6_begin 95 = .ok (.getfield 71, 3) := by decide +kernel
theorem dX6_begin_98 : decode cX6_begin 98 = .ok (.iconst 0, 1) := by decide +kernel
theorem dX6_begin_99 : decode cX6_begin 99 = .ok (.lload_n 2, 1) := by decide +kernel
theorem dX6_begin_100 : decode cX6_begin 100 = .ok (.lastore, 1) := by decide +kernel
theorem dX6_begin_101 : decode cX6_begin 101 = .ok (.aload_n 0, 1) := by decide +kernel
theorem dX6_begin_102 : decode cX6_begin 102 = .ok (.aload_n 0, 1) := by decide +kernel
theorem dX6_begin_103 : decode cX6_begin 103 = .ok (.getfield 104, 3) := by decide +kernel
theorem dX6_begin_106 : decode cX6_begin 106 = .ok (.bipush 41, 2) := by decide +kernel
theorem dX6_begin_108 : decode cX6_begin 108 = .ok (.invokevirtual 107, 3) := by decide +kernel
theorem dX6_begin_111 : decode cX6_begin 111 = .ok (.return_, 1) := by decide +kernel
set_option maxRecDepth 20000 in
theorem ggX6_call_X6_isObject : GoodIn wsX6_call wsX6_isObject := goodIn_r _ [16, 17, 18, 19, 15, 20, 113, 114, 115, 116, 117, 118, 119, 120, 121, 122, 123, 124, 125, 126, 127, 128, 129, 130, 131, 132, 133, 134, 135, 136, 137, 138, 139, 140, 141, 142] (by decide +kernel) (by decide +kernel)
set_option maxRecDepth 20000 in
theorem gX6_call_X6_isObject : GoodIn wsX6_call (wsV RX6 81 RX6 yX6_isObject wsX6_isObject) := goodIn_app (goodIn_of _ (by decide +kernel)) ggX6_call_X6_isObject
set_option maxRecDepth 20000 in
theorem ggX6_call_X6_in : GoodIn wsX6_call wsX6_in := goodIn_r _ [20] (by decide +kernel) (by decide +kernel)
set_option maxRecDepth 20000 in
theorem gX6_call_X6_in : GoodIn wsX6_call (va_wsS RX6 77 yX6_in wsX6_in) := goodIn_app (goodIn_of _ (by decide +kernel)) ggX6_call_X6_in
set_option maxRecDepth 20000 in
theorem ggX6_call_X6_begin : GoodIn wsX6_call wsX6_begin := goodIn_r _ [24, 8, 7, 25, 10, 6, 5, 26, 27, 28, 2, 29, 30, 31, 15, 32, 33, 34, 35, 36, 37, 38, 39, 113, 114, 115, 116, 117, 118, 119, 120, 121, 122, 123, 124, 125, 126, 127, 128, 129, 130, 131, 132, 133, 134, 135, 136, 137, 138, 139, 140, 141, 142] (by decide +kernel) (by decide +kernel)
set_option maxRecDepth 20000 in
theorem gX6_call_X6_begin : GoodIn wsX6_call (wsV RX6 205 RX6 yX6_begin wsX6_begin) := goodIn_app (goodIn_of _ (by decide +kernel)) ggX6_call_X6_begin
set_option maxRecDepth 20000 in
theorem ggX6_call_X6_does : GoodIn wsX6_call wsX6_does := goodIn_r _ [43, 44, 45, 28, 46, 47, 5, 8, 48, 49, 50, 15, 51, 52, 39, 53, 54, 55, 56, 57, 58, 59, 60, 61, 62, 27, 63, 64, 65, 66, 67, 26, 68, 69, 70, 71, 72, 73, 74, 75, 76, 77, 78, 79, 25, 80, 81, 82, 83, 84, 85, 38, 86, 87, 88, 18, 19, 20, 89, 90, 91, 92, 93, 94, 95, 96, 97, 98, 99, 100, 37, 101, 102, 103, 104, 105, 106, 107, 108, 113, 114, 115, 116, 117, 118, 119, 120, 121, 122, 123, 124, 125, 126, 127, 128, 129, 130, 131, 132, 133, 134, 135, 136, 137, 138, 139, 140, 141, 142] (by decide +kernel) (by decide +kernel)
set_option maxRecDepth 20000 in
theorem gX6_call_X6_does : GoodIn wsX6_call (wsV RX6 209 RX6 yX6_does wsX6_does) := goodIn_app (goodIn_of _ (by decide +kernel)) ggX6_call_X6_does
set_option maxRecDepth 20000 in
theorem ggX6_call_X6_at : GoodIn wsX6_call wsX6_at := goodIn_r _ [88] (by decide +kernel) (by decide +kernel)
set_option maxRecDepth 20000 in
theorem gX6_call_X6_at : GoodIn wsX6_call (va_wsS RX6 169 yX6_at wsX6_at) := goodIn_app (goodIn_of _ (by decide +kernel)) ggX6_call_X6_at
set_option maxRecDepth 20000 in
theorem ggX6_call_X6_areAlike : GoodIn wsX6_call wsX6_areAlike := goodIn_r _ [108, 37, 38, 39, 113, 114, 115, 116, 117, 118, 119, 120, 121, 122, 123, 124, 125, 126, 127, 128, 129, 130, 131, 132, 133, 134, 135, 136, 137, 138, 139, 140, 141, 142] (by decide +kernel) (by decide +kernel)
set_option maxRecDepth 20000 in
theorem gX6_call_X6_areAlike : GoodIn wsX6_call (wsV RX6 111 RX6 yX6_areAlike wsX6_areAlike) := goodIn_app (goodIn_of _ (by decide +kernel)) ggX6_call_X6_areAlike
set_option maxRecDepth 20000 in
theorem ggX6_call_X6_rises : GoodIn wsX6_call wsX6_rises := goodIn_r _ [112, 2, 69, 29, 30, 31, 15, 32, 33, 34, 35, 36, 37, 38, 39, 113, 114, 115, 116, 117, 118, 119, 120, 121, 122, 123, 124, 125, 126, 127, 128, 129, 130, 131, 132, 133, 134, 135, 136, 137, 138, 139, 140, 141, 142] (by decide +kernel) (by decide +kernel)
set_option maxRecDepth 20000 in
theorem gX6_call_X6_rises : GoodIn wsX6_call (wsV RX6 115 RX6 yX6_rises wsX6_rises) := goodIn_app (goodIn_of _ (by decide +kernel)) ggX6_call_X6_rises
theorem dX6_call_0 : decode cX6_call 0 = .ok (.aload_n 0, 1) := by decide +kernel
theorem dX6_call_1 : decode cX6_call 1 = .ok (.iload_n 1, 1) := by decide +kernel
theorem dX6_call_2 : decode cX6_call 2 = .ok (.invokevirtual 81, 3) := by decide +kernel
theorem dX6_call_5 : decode cX6_call 5 = .ok (.ifCond .eq 15, 3) := by decide +kernel
theorem dX6_call_8 : decode cX6_call 8 = .ok (.iload_n 2, 1) := by decide +kernel
theorem dX6_call_9 : decode cX6_call 9 = .ok (.i2l, 1) := by decide +kernel
theorem dX6_call_10 : decode cX6_call 10 = .ok (.lconst 0, 1) := by decide +kernel
theorem dX6_call_11 : decode cX6_call 11 = .ok (.ldc2_w 143, 3) := by decide +kernel
theorem dX6_call_14 : decode cX6_call 14 = .ok (.invokestatic 77, 3) := by decide +kernel
theorem dX6_call_17 : decode cX6_call 17 = .ok (.ifCond .ne 5, 3) := by decide +kernel
theorem dX6_call_20 : decode cX6_call 20 = .ok (.iconst (-1), 1) := by decide +kernel
theorem dX6_call_21 : decode cX6_call 21 = .ok (.ireturn, 1) := by decide +kernel
theorem dX6_call_22 : decode cX6_call 22 = .ok (.aload_n 0, 1) := by decide +kernel
theorem dX6_call_23 : decode cX6_call 23 = .ok (.getfield 104, 3) := by decide +kernel
theorem dX6_call_26 : decode cX6_call 26 = .ok (.bipush 40, 2) := by decide +kernel
theorem dX6_call_28 : decode cX6_call 28 = .ok (.if_icmp .ne 6, 3) := by decide +kernel
theorem dX6_call_31 : decode cX6_call 31 = .ok (.bipush (-2), 2) := by decide +kernel
theorem dX6_call_33 : decode cX6_call 33 = .ok (.ireturn, 1) := by decide +kernel
theorem dX6_call_34 : decode cX6_call 34 = .ok (.aload_n 0, 1) := by decide +kernel
theorem dX6_call_35 : decode cX6_call 35 = .ok (.dup, 1) := by decide +kernel
theorem dX6_call_36 : decode cX6_call 36 = .ok (.getfield 202, 3) := by decide +kernel
theorem dX6_call_39 : decode cX6_call 39 = .ok (.iconst 1, 1) := by decide +kernel
theorem dX6_call_40 : decode cX6_call 40 = .ok (.iadd, 1) := by decide +kernel
theorem dX6_call_41 : decode cX6_call 41 = .ok (.putfield 202, 3) := by decide +kernel
theorem dX6_call_44 : decode cX6_call 44 = .ok (.aload_n 0, 1) := by decide +kernel
theorem dX6_call_45 : decode cX6_call 45 = .ok (.iload_n 1, 1) := by decide +kernel
theorem dX6_call_46 : decode cX6_call 46 = .ok (.lload_n 3, 1) := by decide +kernel
theorem dX6_call_47 : decode cX6_call 47 = .ok (.invokevirtual 205, 3) := by decide +kernel
theorem dX6_call_50 : decode cX6_call 50 = .ok (.iconst 0, 1) := by decide +kernel
theorem dX6_call_51 : decode cX6_call 51 = .ok (.istore 5, 2) := by decide +kernel
theorem dX6_call_53 : decode cX6_call 53 = .ok (.iload 5, 2) := by decide +kernel
theorem dX6_call_55 : decode cX6_call 55 = .ok (.aload_n 0, 1) := by decide +kernel
theorem dX6_call_56 : decode cX6_call 56 = .ok (.getfield 31, 3) := by decide +kernel
theorem dX6_call_59 : decode cX6_call 59 = .ok (.iload_n 2, 1) := by decide +kernel
theorem dX6_call_60 : decode cX6_call 60 = .ok (.iaload, 1) := by decide +kernel
theorem dX6_call_61 : decode cX6_call 61 = .ok (.if_icmp .ge 79, 3) := by decide +kernel
theorem dX6_call_64 : decode cX6_call 64 = .ok (.aload_n 0, 1) := by decide +kernel
theorem dX6_call_65 : decode cX6_call 65 = .ok (.getfield 155, 3) := by decide +kernel
theorem dX6_call_68 : decode cX6_call 68 = .ok (.ifCond .ne 72, 3) := by decide +kernel
theorem dX6_call_71 : decode cX6_call 71 = .ok (.iload 5, 2) := by decide +kernel
theorem dX6_call_73 : decode cX6_call 73 = .ok (.istore 6, 2) := by decide +kernel
theorem dX6_call_75 : decode cX6_call 75 = .ok (.aload_n 0, 1) := by decide +kernel
theorem dX6_call_76 : decode cX6_call 76 = .ok (.getfield 199, 3) := by decide +kernel
theorem dX6_call_79 : decode cX6_call 79 = .ok (.sipush 200, 3) := by decide +kernel
theorem dX6_call_82 : decode cX6_call 82 = .ok (.if_icmp .ne 12, 3) := by decide +kernel
theorem dX6_call_85 : decode cX6_call 85 = .ok (.aload_n 0, 1) := by decide +kernel
theorem dX6_call_86 : decode cX6_call 86 = .ok (.bipush 7, 2) := by decide +kernel
theorem dX6_call_88 : decode cX6_call 88 = .ok (.putfield 155, 3) := by decide +kernel
theorem dX6_call_91 : decode cX6_call 91 = .ok (.goto 28, 3) := by decide +kernel
theorem dX6_call_94 : decode cX6_call 94 = .ok (.aload_n 0, 1) := by decide +kernel
theorem dX6_call_95 : decode cX6_call 95 = .ok (.dup, 1) := by decide +kernel
theorem dX6_call_96 : decode cX6_call 96 = .ok (.getfield 199, 3) := by decide +kernel
theorem dX6_call_99 : decode cX6_call 99 = .ok (.iconst 1, 1) := by decide +kernel
theorem dX6_call_100 : decode cX6_call 100 = .ok (.iadd, 1) := by decide +kernel
theorem dX6_call_101 : decode cX6_call 101 = .ok (.putfield 199, 3) := by decide +kernel
theorem dX6_call_104 : decode cX6_call 104 = .ok (.aload_n 0, 1) := by decide +kernel
theorem dX6_call_105 : decode cX6_call 105 = .ok (.bipush 32, 2) := by decide +kernel
theorem dX6_call_107 : decode cX6_call 107 = .ok (.iload_n 2, 1) := by decide +kernel
theorem dX6_call_108 : decode cX6_call 108 = .ok (.imul, 1) := by decide +kernel
theorem dX6_call_109 : decode cX6_call 109 = .ok (.iload 5, 2) := by decide +kernel
theorem dX6_call_111 : decode cX6_call 111 = .ok (.iadd, 1) := by decide +kernel
theorem dX6_call_112 : decode cX6_call 112 = .ok (.iload 5, 2) := by decide +kernel
theorem dX6_call_114 : decode cX6_call 114 = .ok (.invokevirtual 209, 3) := by decide +kernel
theorem dX6_call_117 : decode cX6_call 117 = .ok (.istore 5, 2) := by decide +kernel
theorem dX6_call_119 : decode cX6_call 119 = .ok (.aload_n 0, 1) := by decide +kernel
theorem dX6_call_120 : decode cX6_call 120 = .ok (.aload_n 0, 1) := by decide +kernel
theorem dX6_call_121 : decode cX6_call 121 = .ok (.getfield 155, 3) := by decide +kernel
theorem dX6_call_124 : decode cX6_call 124 = .ok (.ifCond .le 8, 3) := by decide +kernel
theorem dX6_call_127 : decode cX6_call 127 = .ok (.iload 6, 2) := by decide +kernel
theorem dX6_call_129 : decode cX6_call 129 = .ok (.goto 5, 3) := by decide +kernel
theorem dX6_call_132 : decode cX6_call 132 = .ok (.bipush (-3), 2) := by decide +kernel
theorem dX6_call_134 : decode cX6_call 134 = .ok (.putfield 52, 3) := by decide +kernel
theorem dX6_call_137 : decode cX6_call 137 = .ok (.goto (-84), 3) := by decide +kernel
theorem dX6_call_140 : decode cX6_call 140 = .ok (.aload_n 0, 1) := by decide +kernel
theorem dX6_call_141 : decode cX6_call 141 = .ok (.getfield 155, 3) := by decide +kernel
theorem dX6_call_144 : decode cX6_call 144 = .ok (.ifCond .le 13, 3) := by decide +kernel
theorem dX6_call_147 : decode cX6_call 147 = .ok (.aload_n 0, 1) := by decide +kernel
theorem dX6_call_148 : decode cX6_call 148 = .ok (.lconst 0, 1) := by decide +kernel
theorem dX6_call_149 : decode cX6_call 149 = .ok (.putfield 186, 3) := by decide +kernel
theorem dX6_call_152 : decode cX6_call 152 = .ok (.aload_n 0, 1) := by decide +kernel
theorem dX6_call_153 : decode cX6_call 153 = .ok (.getfield 155, 3) := by decide +kernel
theorem dX6_call_156 : decode cX6_call 156 = .ok (.ireturn, 1) := by decide +kernel
theorem dX6_call_157 : decode cX6_call 157 = .ok (.iconst 0, 1) := by decide +kernel
theorem dX6_call_158 : decode cX6_call 158 = .ok (.istore 6, 2) := by decide +kernel
theorem dX6_call_160 : decode cX6_call 160 = .ok (.iload 6, 2) := by decide +kernel
theorem dX6_call_162 : decode cX6_call 162 = .ok (.sipush 192, 3) := by decide +kernel
theorem dX6_call_165 : decode cX6_call 165 = .ok (.if_icmp .ge 64, 3) := by decide +kernel
theorem dX6_call_168 : decode cX6_call 168 = .ok (.aload_n 0, 1) := by decide +kernel
theorem dX6_call_169 : decode cX6_call 169 = .ok (.iload 6, 2) := by decide +kernel
theorem dX6_call_171 : decode cX6_call 171 = .ok (.invokestatic 169, 3) := by decide +kernel
theorem dX6_call_174 : decode cX6_call 174 = .ok (.sipush 192, 3) := by decide +kernel
theorem dX6_call_177 : decode cX6_call 177 = .ok (.aload_n 0, 1) := by decide +kernel
theorem dX6_call_178 : decode cX6_call 178 = .ok (.getfield 104, 3) := by decide +kernel
theorem dX6_call_181 : decode cX6_call 181 = .ok (.imul, 1) := by decide +kernel
theorem dX6_call_182 : decode cX6_call 182 = .ok (.iload 6, 2) := by decide +kernel
theorem dX6_call_184 : decode cX6_call 184 = .ok (.iadd, 1) := by decide +kernel
theorem dX6_call_185 : decode cX6_call 185 = .ok (.invokevirtual 111, 3) := by decide +kernel
theorem dX6_call_188 : decode cX6_call 188 = .ok (.ifCond .ne 35, 3) := by decide +kernel
theorem dX6_call_191 : decode cX6_call 191 = .ok (.aload_n 0, 1) := by decide +kernel
theorem dX6_call_192 : decode cX6_call 192 = .ok (.getfield 62, 3) := by decide +kernel
theorem dX6_call_195 : decode cX6_call 195 = .ok (.aload_n 0, 1) := by decide +kernel
theorem dX6_call_196 : decode cX6_call 196 = .ok (.getfield 196, 3) := by decide +kernel
theorem dX6_call_199 : decode cX6_call 199 = .ok (.iload 6, 2) := by decide +kernel
theorem dX6_call_201 : decode cX6_call 201 = .ok (.iastore, 1) := by decide +kernel
theorem dX6_call_202 : decode cX6_call 202 = .ok (.aload_n 0, 1) := by decide +kernel
theorem dX6_call_203 : decode cX6_call 203 = .ok (.dup, 1) := by decide +kernel
theorem dX6_call_204 : decode cX6_call 204 = .ok (.getfield 196, 3) := by decide +kernel
theorem dX6_call_207 : decode cX6_call 207 = .ok (.iconst 1, 1) := by decide +kernel
theorem dX6_call_208 : decode cX6_call 208 = .ok (.iadd, 1) := by decide +kernel
theorem dX6_call_209 : decode cX6_call 209 = .ok (.putfield 196, 3) := by decide +kernel
theorem dX6_call_212 : decode cX6_call 212 = .ok (.aload_n 0, 1) := by decide +kernel
theorem dX6_call_213 : decode cX6_call 213 = .ok (.getfield 28, 3) := by decide +kernel
theorem dX6_call_216 : decode cX6_call 216 = .ok (.iload 6, 2) := by decide +kernel
theorem dX6_call_218 : decode cX6_call 218 = .ok (.dup2, 1) := by decide +kernel
theorem dX6_call_219 : decode cX6_call 219 = .ok (.iaload, 1) := by decide +kernel
theorem dX6_call_220 : decode cX6_call 220 = .ok (.iconst 1, 1) := by decide +kernel
theorem dX6_call_221 : decode cX6_call 221 = .ok (.iadd, 1) := by decide +kernel
theorem dX6_call_222 : decode cX6_call 222 = .ok (.iastore, 1) := by decide +kernel
theorem dX6_call_223 : decode cX6_call 223 = .ok (.iinc 6 1, 3) := by decide +kernel
theorem dX6_call_226 : decode cX6_call 226 = .ok (.goto (-66), 3) := by decide +kernel
theorem dX6_call_229 : decode cX6_call 229 = .ok (.aload_n 0, 1) := by decide +kernel
theorem dX6_call_230 : decode cX6_call 230 = .ok (.getfield 196, 3) := by decide +kernel
theorem dX6_call_233 : decode cX6_call 233 = .ok (.ifCond .le 7, 3) := by decide +kernel
theorem dX6_call_236 : decode cX6_call 236 = .ok (.aload_n 0, 1) := by decide +kernel
theorem dX6_call_237 : decode cX6_call 237 = .ok (.invokevirtual 115, 3) := by decide +kernel
theorem dX6_call_240 : decode cX6_call 240 = .ok (.iconst 0, 1) := by decide +kernel
theorem dX6_call_241 : decode cX6_call 241 = .ok (.ireturn, 1) := by decide +kernel
theorem dX6_gave_0 : decode cX6_gave 0 = .ok (.aload_n 0, 1) := by decide +kernel
theorem dX6_gave_1 : decode cX6_gave 1 = .ok (.getfield 186, 3) := by decide +kernel
theorem dX6_gave_4 : decode cX6_gave 4 = .ok (.lreturn, 1) := by decide +kernel
theorem dX6_where_0 : decode cX6_where 0 = .ok (.aload_n 0, 1) := by decide +kernel
theorem dX6_where_1 : decode cX6_where 1 = .ok (.getfield 52, 3) := by decide +kernel
theorem dX6_where_4 : decode cX6_where 4 = .ok (.ireturn, 1) := by decide +kernel
set_option maxRecDepth 20000 in
theorem ggX6_touched_X6_in : GoodIn wsX6_touched wsX6_in := goodIn_r _ [7] (by decide +kernel) (by decide +kernel)
set_option maxRecDepth 20000 in
theorem gX6_touched_X6_in : GoodIn wsX6_touched (va_wsS RX6 77 yX6_in wsX6_in) := goodIn_app (goodIn_of _ (by decide +kernel)) ggX6_touched_X6_in
theorem dX6_touched_0 : decode cX6_touched 0 = .ok (.iload_n 1, 1) := by decide +kernel
theorem dX6_touched_1 : decode cX6_touched 1 = .ok (.ifCond .lt 13, 3) := by decide +kernel
theorem dX6_touched_4 : decode cX6_touched 4 = .ok (.iload_n 2, 1) := by decide +kernel
theorem dX6_touched_5 : decode cX6_touched 5 = .ok (.i2l, 1) := by decide +kernel
theorem dX6_touched_6 : decode cX6_touched 6 = .ok (.lconst 0, 1) := by decide +kernel
theorem dX6_touched_7 : decode cX6_touched 7 = .ok (.lconst 1, 1) := by decide +kernel
theorem dX6_touched_8 : decode cX6_touched 8 = .ok (.invokestatic 77, 3) := by decide +kernel
theorem dX6_touched_11 : decode cX6_touched 11 = .ok (.ifCond .ne 5, 3) := by decide +kernel
theorem dX6_touched_14 : decode cX6_touched 14 = .ok (.iconst (-1), 1) := by decide +kernel
theorem dX6_touched_15 : decode cX6_touched 15 = .ok (.ireturn, 1) := by decide +kernel
theorem dX6_touched_16 : decode cX6_touched 16 = .ok (.iload_n 1, 1) := by decide +kernel
theorem dX6_touched_17 : decode cX6_touched 17 = .ok (.aload_n 0, 1) := by decide +kernel
theorem dX6_touched_18 : decode cX6_touched 18 = .ok (.getfield 152, 3) := by decide +kernel
theorem dX6_touched_21 : decode cX6_touched 21 = .ok (.if_icmp .lt 8, 3) := by decide +kernel
theorem dX6_touched_24 : decode cX6_touched 24 = .ok (.bipush (-3), 2) := by decide +kernel
theorem dX6_touched_26 : decode cX6_touched 26 = .ok (.goto 22, 3) := by decide +kernel
theorem dX6_touched_29 : decode cX6_touched 29 = .ok (.iload_n 2, 1) := by decide +kernel
theorem dX6_touched_30 : decode cX6_touched 30 = .ok (.ifCond .ne 12, 3) := by decide +kernel
theorem dX6_touched_33 : decode cX6_touched 33 = .ok (.aload_n 0, 1) := by decide +kernel
theorem dX6_touched_34 : decode cX6_touched 34 = .ok (.getfield 56, 3) := by decide +kernel
theorem dX6_touched_37 : decode cX6_touched 37 = .ok (.iload_n 1, 1) := by decide +kernel
theorem dX6_touched_38 : decode cX6_touched 38 = .ok (.iaload, 1) := by decide +kernel
theorem dX6_touched_39 : decode cX6_touched 39 = .ok (.goto 9, 3) := by decide +kernel
theorem dX6_touched_42 : decode cX6_touched 42 = .ok (.aload_n 0, 1) := by decide +kernel
theorem dX6_touched_43 : decode cX6_touched 43 = .ok (.getfield 59, 3) := by decide +kernel
theorem dX6_touched_46 : decode cX6_touched 46 = .ok (.iload_n 1, 1) := by decide +kernel
theorem dX6_touched_47 : decode cX6_touched 47 = .ok (.iaload, 1) := by decide +kernel
theorem dX6_touched_48 : decode cX6_touched 48 = .ok (.ireturn, 1) := by decide +kernel
theorem dX6_written_0 : decode cX6_written 0 = .ok (.iload_n 1, 1) := by decide +kernel
theorem dX6_written_1 : decode cX6_written 1 = .ok (.ifCond .ge 7, 3) := by decide +kernel
theorem dX6_written_4 : decode cX6_written 4 = .ok (.iconst (-1), 1) := by decide +kernel
theorem dX6_written_5 : decode cX6_written 5 = .ok (.goto 22, 3) := by decide +kernel
theorem dX6_written_8 : decode cX6_written 8 = .ok (.iload_n 1, 1) := by decide +kernel
theorem dX6_written_9 : decode cX6_written 9 = .ok (.aload_n 0, 1) := by decide +kernel
theorem dX6_written_10 : decode cX6_written 10 = .ok (.getfield 196, 3) := by decide +kernel
theorem dX6_written_13 : decode cX6_written 13 = .ok (.if_icmp .lt 8, 3) := by decide +kernel
theorem dX6_written_16 : decode cX6_written 16 = .ok (.bipush (-3), 2) := by decide +kernel
theorem dX6_written_18 : decode cX6_written 18 = .ok (.goto 9, 3) := by decide +kernel
theorem dX6_written_21 : decode cX6_written 21 = .ok (.aload_n 0, 1) := by decide +kernel
theorem dX6_written_22 : decode cX6_written 22 = .ok (.getfield 62, 3) := by decide +kernel
theorem dX6_written_25 : decode cX6_written 25 = .ok (.iload_n 1, 1) := by decide +kernel
theorem dX6_written_26 : decode cX6_written 26 = .ok (.iaload, 1) := by decide +kernel
theorem dX6_written_27 : decode cX6_written 27 = .ok (.ireturn, 1) := by decide +kernel
set_option maxRecDepth 20000 in
theorem ggX6_loaded_X6_isObject : GoodIn wsX6_loaded wsX6_isObject := goodIn_r _ [6, 7, 8, 9, 5, 10, 11, 12, 13, 14, 15, 16, 17, 18, 19, 20, 21, 22, 23, 24, 25, 26, 27, 28, 29, 30, 31, 32, 33, 34, 35, 36, 37, 38, 39, 40] (by decide +kernel) (by decide +kernel)
set_option maxRecDepth 20000 in
theorem gX6_loaded_X6_isObject : GoodIn wsX6_loaded (wsV RX6 81 RX6 yX6_isObject wsX6_isObject) := goodIn_app (goodIn_of _ (by decide +kernel)) ggX6_loaded_X6_isObject
theorem dX6_loaded_0 : decode cX6_loaded 0 = .ok (.aload_n 0, 1) := by decide +kernel
theorem dX6_loaded_1 : decode cX6_loaded 1 = .ok (.iload_n 1, 1) := by decide +kernel
theorem dX6_loaded_2 : decode cX6_loaded 2 = .ok (.invokevirtual 81, 3) := by decide +kernel
theorem dX6_loaded_5 : decode cX6_loaded 5 = .ok (.ifCond .ne 7, 3) := by decide +kernel
theorem dX6_loaded_8 : decode cX6_loaded 8 = .ok (.iconst (-1), 1) := by decide +kernel
theorem dX6_loaded_9 : decode cX6_loaded 9 = .ok (.goto 17, 3) := by decide +kernel
theorem dX6_loaded_12 : decode cX6_loaded 12 = .ok (.aload_n 0, 1) := by decide +kernel
theorem dX6_loaded_13 : decode cX6_loaded 13 = .ok (.getfield 65, 3) := by decide +kernel
theorem dX6_loaded_16 : decode cX6_loaded 16 = .ok (.iload_n 1, 1) := by decide +kernel
theorem dX6_loaded_17 : decode cX6_loaded 17 = .ok (.baload, 1) := by decide +kernel
theorem dX6_loaded_18 : decode cX6_loaded 18 = .ok (.ifCond .eq 7, 3) := by decide +kernel
theorem dX6_loaded_21 : decode cX6_loaded 21 = .ok (.iconst 1, 1) := by decide +kernel
theorem dX6_loaded_22 : decode cX6_loaded 22 = .ok (.goto 4, 3) := by decide +kernel
theorem dX6_loaded_25 : decode cX6_loaded 25 = .ok (.iconst 0, 1) := by decide +kernel
theorem dX6_loaded_26 : decode cX6_loaded 26 = .ok (.ireturn, 1) := by decide +kernel
set_option maxRecDepth 20000 in
theorem ggX6_cached_X6_isObject : GoodIn wsX6_cached wsX6_isObject := goodIn_r _ [6, 7, 8, 9, 5, 10, 11, 12, 13, 14, 15, 16, 17, 18, 19, 20, 21, 22, 23, 24, 25, 26, 27, 28, 29, 30, 31, 32, 33, 34, 35, 36, 37, 38, 39, 40] (by decide +kernel) (by decide +kernel)
set_option maxRecDepth 20000 in
theorem gX6_cached_X6_isObject : GoodIn wsX6_cached (wsV RX6 81 RX6 yX6_isObject wsX6_isObject) := goodIn_app (goodIn_of _ (by decide +kernel)) ggX6_cached_X6_isObject
theorem dX6_cached_0 : decode cX6_cached 0 = .ok (.aload_n 0, 1) := by decide +kernel
theorem dX6_cached_1 : decode cX6_cached 1 = .ok (.iload_n 1, 1) := by decide +kernel
theorem dX6_cached_2 : decode cX6_cached 2 = .ok (.invokevirtual 81, 3) := by decide +kernel
theorem dX6_cached_5 : decode cX6_cached 5 = .ok (.ifCond .ne 7, 3) := by decide +kernel
theorem dX6_cached_8 : decode cX6_cached 8 = .ok (.iconst (-1), 1) := by decide +kernel
theorem dX6_cached_9 : decode cX6_cached 9 = .ok (.goto 17, 3) := by decide +kernel
theorem dX6_cached_12 : decode cX6_cached 12 = .ok (.aload_n 0, 1) := by decide +kernel
theorem dX6_cached_13 : decode cX6_cached 13 = .ok (.getfield 24, 3) := by decide +kernel
theorem dX6_cached_16 : decode cX6_cached 16 = .ok (.iload_n 1, 1) := by decide +kernel
theorem dX6_cached_17 : decode cX6_cached 17 = .ok (.baload, 1) := by decide +kernel
theorem dX6_cached_18 : decode cX6_cached 18 = .ok (.ifCond .eq 7, 3) := by decide +kernel
theorem dX6_cached_21 : decode cX6_cached 21 = .ok (.iconst 1, 1) := by decide +kernel
theorem dX6_cached_22 : decode cX6_cached 22 = .ok (.goto 4, 3) := by decide +kernel
theorem dX6_cached_25 : decode cX6_cached 25 = .ok (.iconst 0, 1) := by decide +kernel
theorem dX6_cached_26 : decode cX6_cached 26 = .ok (.ireturn, 1) := by decide +kernel
set_option maxRecDepth 20000 in
theorem ggX6_hint_X6_isObject : GoodIn wsX6_hint wsX6_isObject := goodIn_r _ [7, 8, 9, 10, 6, 11, 12, 13, 14, 15, 16, 17, 18, 19, 20, 21, 22, 23, 24, 25, 26, 27, 28, 29, 30, 31, 32, 33, 34, 35, 36, 37, 38, 39, 40, 41] (by decide +kernel) (by decide +kernel)
set_option maxRecDepth 20000 in
theorem gX6_hint_X6_isObject : GoodIn wsX6_hint (wsV RX6 81 RX6 yX6_isObject wsX6_isObject) := goodIn_app (goodIn_of _ (by decide +kernel)) ggX6_hint_X6_isObject
theorem dX6_hint_0 : decode cX6_hint 0 = .ok (.aload_n 0, 1) := by decide +kernel
theorem dX6_hint_1 : decode cX6_hint 1 = .ok (.iload_n 1, 1) := by decide +kernel
theorem dX6_hint_2 : decode cX6_hint 2 = .ok (.invokevirtual 81, 3) := by decide +kernel
theorem dX6_hint_5 : decode cX6_hint 5 = .ok (.ifCond .ne 5, 3) := by decide +kernel
theorem dX6_hint_8 : decode cX6_hint 8 = .ok (.iconst (-1), 1) := by decide +kernel
theorem dX6_hint_9 : decode cX6_hint 9 = .ok (.ireturn, 1) := by decide +kernel
theorem dX6_hint_10 : decode cX6_hint 10 = .ok (.aload_n 0, 1) := by decide +kernel
theorem dX6_hint_11 : decode cX6_hint 11 = .ok (.getfield 24, 3) := by decide +kernel
theorem dX6_hint_14 : decode cX6_hint 14 = .ok (.iload_n 1, 1) := by decide +kernel
theorem dX6_hint_15 : decode cX6_hint 15 = .ok (.baload, 1) := by decide +kernel
theorem dX6_hint_16 : decode cX6_hint 16 = .ok (.ifCond .eq 7, 3) := by decide +kernel
theorem dX6_hint_19 : decode cX6_hint 19 = .ok (.iconst 0, 1) := by decide +kernel
theorem dX6_hint_20 : decode cX6_hint 20 = .ok (.goto 4, 3) := by decide +kernel
theorem dX6_hint_23 : decode cX6_hint 23 = .ok (.iconst 1, 1) := by decide +kernel
theorem dX6_hint_24 : decode cX6_hint 24 = .ok (.istore_n 2, 1) := by decide +kernel
theorem dX6_hint_25 : decode cX6_hint 25 = .ok (.aload_n 0, 1) := by decide +kernel
theorem dX6_hint_26 : decode cX6_hint 26 = .ok (.dup, 1) := by decide +kernel
theorem dX6_hint_27 : decode cX6_hint 27 = .ok (.getfield 149, 3) := by decide +kernel
theorem dX6_hint_30 : decode cX6_hint 30 = .ok (.iload_n 2, 1) := by decide +kernel
theorem dX6_hint_31 : decode cX6_hint 31 = .ok (.iadd, 1) := by decide +kernel
theorem dX6_hint_32 : decode cX6_hint 32 = .ok (.putfield 149, 3) := by decide +kernel
theorem dX6_hint_35 : decode cX6_hint 35 = .ok (.aload_n 0, 1) := by decide +kernel
theorem dX6_hint_36 : decode cX6_hint 36 = .ok (.getfield 24, 3) := by decide +kernel
theorem dX6_hint_39 : decode cX6_hint 39 = .ok (.iload_n 1, 1) := by decide +kernel
theorem dX6_hint_40 : decode cX6_hint 40 = .ok (.iconst 1, 1) := by decide +kernel
theorem dX6_hint_41 : decode cX6_hint 41 = .ok (.bastore, 1) := by decide +kernel
theorem dX6_hint_42 : decode cX6_hint 42 = .ok (.iload_n 2, 1) := by decide +kernel
theorem dX6_hint_43 : decode cX6_hint 43 = .ok (.ireturn, 1) := by decide +kernel
set_option maxRecDepth 20000 in
theorem ggX6_times_X6_in : GoodIn wsX6_times wsX6_in := goodIn_r _ [7] (by decide +kernel) (by decide +kernel)
set_option maxRecDepth 20000 in
theorem gX6_times_X6_in : GoodIn wsX6_times (va_wsS RX6 77 yX6_in wsX6_in) := goodIn_app (goodIn_of _ (by decide +kernel)) ggX6_times_X6_in
set_option maxRecDepth 20000 in
theorem ggX6_times_X6_isObject : GoodIn wsX6_times wsX6_isObject := goodIn_r _ [11, 12, 4, 5, 6, 7, 16, 17, 18, 19, 20, 21, 22, 23, 24, 25, 26, 27, 28, 29, 30, 31, 32, 33, 34, 35, 36, 37, 38, 39, 40, 41, 42, 43, 44, 45] (by decide +kernel) (by decide +kernel)
set_option maxRecDepth 20000 in
theorem gX6_times_X6_isObject : GoodIn wsX6_times (wsV RX6 81 RX6 yX6_isObject wsX6_isObject) := goodIn_app (goodIn_of _ (by decide +kernel)) ggX6_times_X6_isObject
set_option maxRecDepth 20000 in
theorem ggX6_times_X6_fieldsOf : GoodIn wsX6_times wsX6_fieldsOf := goodIn_r _ [15] (by decide +kernel) (by decide +kernel)
set_option maxRecDepth 20000 in
theorem gX6_times_X6_fieldsOf : GoodIn wsX6_times (va_wsS RX6 85 yX6_fieldsOf wsX6_fieldsOf) := goodIn_app (goodIn_of _ (by decide +kernel)) ggX6_times_X6_fieldsOf
theorem dX6_times_0 : decode cX6_times 0 = .ok (.iload_n 1, 1) := by decide +kernel
theorem dX6_times_1 : decode cX6_times 1 = .ok (.i2l, 1) := by decide +kernel
theorem dX6_times_2 : decode cX6_times 2 = .ok (.lconst 0, 1) := by decide +kernel
theorem dX6_times_3 : decode cX6_times 3 = .ok (.ldc2_w 212, 3) := by decide +kernel
theorem dX6_times_6 : decode cX6_times 6 = .ok (.invokestatic 77, 3) := by decide +kernel
theorem dX6_times_9 : decode cX6_times 9 = .ok (.ifCond .eq 37, 3) := by decide +kernel
theorem dX6_times_12 : decode cX6_times 12 = .ok (.aload_n 0, 1) := by decide +kernel
theorem dX6_times_13 : decode cX6_times 13 = .ok (.iload_n 1, 1) := by decide +kernel
theorem dX6_times_14 : decode cX6_times 14 = .ok (.bipush 8, 2) := by decide +kernel
theorem dX6_times_16 : decode cX6_times 16 = .ok (.idiv, 1) := by decide +kernel
theorem dX6_times_17 : decode cX6_times 17 = .ok (.invokevirtual 81, 3) := by decide +kernel
theorem dX6_times_20 : decode cX6_times 20 = .ok (.ifCond .eq 26, 3) := by decide +kernel
theorem dX6_times_23 : decode cX6_times 23 = .ok (.iload_n 1, 1) := by decide +kernel
theorem dX6_times_24 : decode cX6_times 24 = .ok (.bipush 8, 2) := by decide +kernel
theorem dX6_times_26 : decode cX6_times 26 = .ok (.irem, 1) := by decide +kernel
theorem dX6_times_27 : decode cX6_times 27 = .ok (.aload_n 0, 1) := by decide +kernel
theorem dX6_times_28 : decode cX6_times 28 = .ok (.getfield 7, 3) := by decide +kernel
theorem dX6_times_31 : decode cX6_times 31 = .ok (.iload_n 1, 1) := by decide +kernel
theorem dX6_times_32 : decode cX6_times 32 = .ok (.bipush 8, 2) := by decide +kernel
theorem dX6_times_34 : decode cX6_times 34 = .ok (.idiv, 1) := by decide +kernel
theorem dX6_times_35 : decode cX6_times 35 = .ok (.iaload, 1) := by decide +kernel
theorem dX6_times_36 : decode cX6_times 36 = .ok (.invokestatic 85, 3) := by decide +kernel
theorem dX6_times_39 : decode cX6_times 39 = .ok (.if_icmp .ge 7, 3) := by decide +kernel
theorem dX6_times_42 : decode cX6_times 42 = .ok (.iconst 1, 1) := by decide +kernel
theorem dX6_times_43 : decode cX6_times 43 = .ok (.goto 4, 3) := by decide +kernel
theorem dX6_times_46 : decode cX6_times 46 = .ok (.iconst 0, 1) := by decide +kernel
theorem dX6_times_47 : decode cX6_times 47 = .ok (.istore_n 2, 1) := by decide +kernel
theorem dX6_times_48 : decode cX6_times 48 = .ok (.iload_n 2, 1) := by decide +kernel
theorem dX6_times_49 : decode cX6_times 49 = .ok (.ifCond .eq 12, 3) := by decide +kernel
theorem dX6_times_52 : decode cX6_times 52 = .ok (.aload_n 0, 1) := by decide +kernel
theorem dX6_times_53 : decode cX6_times 53 = .ok (.getfield 28, 3) := by decide +kernel
theorem dX6_times_56 : decode cX6_times 56 = .ok (.iload_n 1, 1) := by decide +kernel
theorem dX6_times_57 : decode cX6_times 57 = .ok (.iaload, 1) := by decide +kernel
theorem dX6_times_58 : decode cX6_times 58 = .ok (.goto 4, 3) := by decide +kernel
theorem dX6_times_61 : decode cX6_times 61 = .ok (.iconst (-1), 1) := by decide +kernel
theorem dX6_times_62 : decode cX6_times 62 = .ok (.ireturn, 1) := by decide +kernel
set_option maxRecDepth 20000 in
theorem ggX6_all_X6_isObject : GoodIn wsX6_all wsX6_isObject := goodIn_r _ [7, 8, 9, 10, 6, 11, 12, 13, 14, 15, 16, 17, 18, 19, 20, 21, 22, 23, 24, 25, 26, 27, 28, 29, 30, 31, 32, 33, 34, 35, 36, 37, 38, 39, 40, 41] (by decide +kernel) (by decide +kernel)
set_option maxRecDepth 20000 in
theorem gX6_all_X6_isObject : GoodIn wsX6_all (wsV RX6 81 RX6 yX6_isObject wsX6_isObject) := goodIn_app (goodIn_of _ (by decide +kernel)) ggX6_all_X6_isObject
set_option maxRecDepth 20000 in
theorem ggX6_all_X6_in : GoodIn wsX6_all wsX6_in := goodIn_r _ [11] (by decide +kernel) (by decide +kernel)
set_option maxRecDepth 20000 in
theorem gX6_all_X6_in : GoodIn wsX6_all (va_wsS RX6 77 yX6_in wsX6_in) := goodIn_app (goodIn_of _ (by decide +kernel)) ggX6_all_X6_in
theorem dX6_all_0 : decode cX6_all 0 = .ok (.aload_n 0, 1) := by decide +kernel
theorem dX6_all_1 : decode cX6_all 1 = .ok (.iload_n 1, 1) := by decide +kernel
theorem dX6_all_2 : decode cX6_all 2 = .ok (.invokevirtual 81, 3) := by decide +kernel
theorem dX6_all_5 : decode cX6_all 5 = .ok (.ifCond .eq 15, 3) := by decide +kernel
theorem dX6_all_8 : decode cX6_all 8 = .ok (.iload_n 2, 1) := by decide +kernel
theorem dX6_all_9 : decode cX6_all 9 = .ok (.i2l, 1) := by decide +kernel
theorem dX6_all_10 : decode cX6_all 10 = .ok (.lconst 0, 1) := by decide +kernel
theorem dX6_all_11 : decode cX6_all 11 = .ok (.ldc2_w 143, 3) := by decide +kernel
theorem dX6_all_14 : decode cX6_all 14 = .ok (.invokestatic 77, 3) := by decide +kernel
theorem dX6_all_17 : decode cX6_all 17 = .ok (.ifCond .ne 7, 3) := by decide +kernel
theorem dX6_all_20 : decode cX6_all 20 = .ok (.iconst (-1), 1) := by decide +kernel
theorem dX6_all_21 : decode cX6_all 21 = .ok (.goto 18, 3) := by decide +kernel
theorem dX6_all_24 : decode cX6_all 24 = .ok (.aload_n 0, 1) := by decide +kernel
theorem dX6_all_25 : decode cX6_all 25 = .ok (.getfield 104, 3) := by decide +kernel
theorem dX6_all_28 : decode cX6_all 28 = .ok (.bipush 40, 2) := by decide +kernel
theorem dX6_all_30 : decode cX6_all 30 = .ok (.if_icmp .ne 8, 3) := by decide +kernel
theorem dX6_all_33 : decode cX6_all 33 = .ok (.bipush (-2), 2) := by decide +kernel
theorem dX6_all_35 : decode cX6_all 35 = .ok (.goto 4, 3) := by decide +kernel
theorem dX6_all_38 : decode cX6_all 38 = .ok (.iconst 1, 1) := by decide +kernel
theorem dX6_all_39 : decode cX6_all 39 = .ok (.ireturn, 1) := by decide +kernel
set_option maxRecDepth 20000 in
theorem ggX6_view_X6_isObject : GoodIn wsX6_view wsX6_isObject := goodIn_r _ [12, 13, 14, 15, 11, 16, 23, 24, 25, 26, 27, 28, 29, 30, 31, 32, 33, 34, 35, 36, 37, 38, 39, 40, 41, 42, 43, 44, 45, 46, 47, 48, 49, 50, 51, 52] (by decide +kernel) (by decide +kernel)
set_option maxRecDepth 20000 in
theorem gX6_view_X6_isObject : GoodIn wsX6_view (wsV RX6 81 RX6 yX6_isObject wsX6_isObject) := goodIn_app (goodIn_of _ (by decide +kernel)) ggX6_view_X6_isObject
set_option maxRecDepth 20000 in
theorem ggX6_view_X6_fieldsOf : GoodIn wsX6_view wsX6_fieldsOf := goodIn_r _ [19] (by decide +kernel) (by decide +kernel)
set_option maxRecDepth 20000 in
theorem gX6_view_X6_fieldsOf : GoodIn wsX6_view (va_wsS RX6 85 yX6_fieldsOf wsX6_fieldsOf) := goodIn_app (goodIn_of _ (by decide +kernel)) ggX6_view_X6_fieldsOf
set_option maxRecDepth 20000 in
theorem ggX6_view_X6_in : GoodIn wsX6_view wsX6_in := goodIn_r _ [16] (by decide +kernel) (by decide +kernel)
set_option maxRecDepth 20000 in
theorem gX6_view_X6_in : GoodIn wsX6_view (va_wsS RX6 77 yX6_in wsX6_in) := goodIn_app (goodIn_of _ (by decide +kernel)) ggX6_view_X6_in
set_option maxRecDepth 20000 in
theorem ggX6_view_X6_sortOf : GoodIn wsX6_view wsX6_sortOf := goodIn_r _ [22] (by decide +kernel) (by decide +kernel)
set_option maxRecDepth 20000 in
theorem gX6_view_X6_sortOf : GoodIn wsX6_view (va_wsS RX6 89 yX6_sortOf wsX6_sortOf) := goodIn_app (goodIn_of _ (by decide +kernel)) ggX6_view_X6_sortOf
theorem dX6_view_0 : decode cX6_view 0 = .ok (.aload_n 0, 1) := by decide +kernel
theorem dX6_view_1 : decode cX6_view 1 = .ok (.iconst (-1), 1) := by decide +kernel
theorem dX6_view_2 : decode cX6_view 2 = .ok (.putfield 214, 3) := by decide +kernel
theorem dX6_view_5 : decode cX6_view 5 = .ok (.aload_n 0, 1) := by decide +kernel
theorem dX6_view_6 : decode cX6_view 6 = .ok (.iload_n 1, 1) := by decide +kernel
theorem dX6_view_7 : decode cX6_view 7 = .ok (.invokevirtual 81, 3) := by decide +kernel
theorem dX6_view_10 : decode cX6_view 10 = .ok (.ifCond .eq 50, 3) := by decide +kernel
theorem dX6_view_13 : decode cX6_view 13 = .ok (.iload_n 2, 1) := by decide +kernel
theorem dX6_view_14 : decode cX6_view 14 = .ok (.i2l, 1) := by decide +kernel
theorem dX6_view_15 : decode cX6_view 15 = .ok (.lconst 0, 1) := by decide +kernel
theorem dX6_view_16 : decode cX6_view 16 = .ok (.aload_n 0, 1) := by decide +kernel
theorem dX6_view_17 : decode cX6_view 17 = .ok (.getfield 7, 3) := by decide +kernel
theorem dX6_view_20 : decode cX6_view 20 = .ok (.iload_n 1, 1) := by decide +kernel
theorem dX6_view_21 : decode cX6_view 21 = .ok (.iaload, 1) := by decide +kernel
theorem dX6_view_22 : decode cX6_view 22 = .ok (.invokestatic 85, 3) := by decide +kernel
theorem dX6_view_25 : decode cX6_view 25 = .ok (.iconst 1, 1) := by decide +kernel
theorem dX6_view_26 : decode cX6_view 26 = .ok (.isub, 1) := by decide +kernel
theorem dX6_view_27 : decode cX6_view 27 = .ok (.i2l, 1) := by decide +kernel
theorem dX6_view_28 : decode cX6_view 28 = .ok (.invokestatic 77, 3) := by decide +kernel
theorem dX6_view_31 : decode cX6_view 31 = .ok (.ifCond .eq 29, 3) := by decide +kernel
theorem dX6_view_34 : decode cX6_view 34 = .ok (.iload_n 3, 1) := by decide +kernel
theorem dX6_view_35 : decode cX6_view 35 = .ok (.i2l, 1) := by decide +kernel
theorem dX6_view_36 : decode cX6_view 36 = .ok (.lconst 0, 1) := by decide +kernel
theorem dX6_view_37 : decode cX6_view 37 = .ok (.aload_n 0, 1) := by decide +kernel
theorem dX6_view_38 : decode cX6_view 38 = .ok (.getfield 104, 3) := by decide +kernel
theorem dX6_view_41 : decode cX6_view 41 = .ok (.i2l, 1) := by decide +kernel
theorem dX6_view_42 : decode cX6_view 42 = .ok (.invokestatic 77, 3) := by decide +kernel
theorem dX6_view_45 : decode cX6_view 45 = .ok (.ifCond .eq 15, 3) := by decide +kernel
theorem dX6_view_48 : decode cX6_view 48 = .ok (.iload 4, 2) := by decide +kernel
theorem dX6_view_50 : decode cX6_view 50 = .ok (.ifCond .ge 14, 3) := by decide +kernel
theorem dX6_view_53 : decode cX6_view 53 = .ok (.iload 4, 2) := by decide +kernel
theorem dX6_view_55 : decode cX6_view 55 = .ok (.bipush (-3), 2) := by decide +kernel
theorem dX6_view_57 : decode cX6_view 57 = .ok (.if_icmp .eq 7, 3) := by decide +kernel
theorem dX6_view_60 : decode cX6_view 60 = .ok (.ldc2_w 217, 3) := by decide +kernel
theorem dX6_view_63 : decode cX6_view 63 = .ok (.lreturn, 1) := by decide +kernel
theorem dX6_view_64 : decode cX6_view 64 = .ok (.aload_n 0, 1) := by decide +kernel
theorem dX6_view_65 : decode cX6_view 65 = .ok (.getfield 7, 3) := by decide +kernel
theorem dX6_view_68 : decode cX6_view 68 = .ok (.iload_n 1, 1) := by decide +kernel
theorem dX6_view_69 : decode cX6_view 69 = .ok (.iaload, 1) := by decide +kernel
theorem dX6_view_70 : decode cX6_view 70 = .ok (.iload_n 2, 1) := by decide +kernel
theorem dX6_view_71 : decode cX6_view 71 = .ok (.invokestatic 89, 3) := by decide +kernel
theorem dX6_view_74 : decode cX6_view 74 = .ok (.istore 5, 2) := by decide +kernel
theorem dX6_view_76 : decode cX6_view 76 = .ok (.sipush 192, 3) := by decide +kernel
theorem dX6_view_79 : decode cX6_view 79 = .ok (.iload_n 3, 1) := by decide +kernel
theorem dX6_view_80 : decode cX6_view 80 = .ok (.imul, 1) := by decide +kernel
theorem dX6_view_81 : decode cX6_view 81 = .ok (.bipush 8, 2) := by decide +kernel
theorem dX6_view_83 : decode cX6_view 83 = .ok (.iload_n 1, 1) := by decide +kernel
theorem dX6_view_84 : decode cX6_view 84 = .ok (.imul, 1) := by decide +kernel
theorem dX6_view_85 : decode cX6_view 85 = .ok (.iadd, 1) := by decide +kernel
theorem dX6_view_86 : decode cX6_view 86 = .ok (.iload_n 2, 1) := by decide +kernel
theorem dX6_view_87 : decode cX6_view 87 = .ok (.iadd, 1) := by decide +kernel
theorem dX6_view_88 : decode cX6_view 88 = .ok (.istore 6, 2) := by decide +kernel
theorem dX6_view_90 : decode cX6_view 90 = .ok (.iload 4, 2) := by decide +kernel
theorem dX6_view_92 : decode cX6_view 92 = .ok (.ifCond .lt 25, 3) := by decide +kernel
theorem dX6_view_95 : decode cX6_view 95 = .ok (.iload 5, 2) := by decide +kernel
theorem dX6_view_97 : decode cX6_view 97 = .ok (.iconst 2, 1) := by decide +kernel
theorem dX6_view_98 : decode cX6_view 98 = .ok (.if_icmp .ne 15, 3) := by decide +kernel
theorem dX6_view_101 : decode cX6_view 101 = .ok (.iload 4, 2) := by decide +kernel
theorem dX6_view_103 : decode cX6_view 103 = .ok (.aload_n 0, 1) := by decide +kernel
theorem dX6_view_104 : decode cX6_view 104 = .ok (.getfield 17, 3) := by decide +kernel
theorem dX6_view_107 : decode cX6_view 107 = .ok (.iload 6, 2) := by decide +kernel
theorem dX6_view_109 : decode cX6_view 109 = .ok (.iaload, 1) := by decide +kernel
theorem dX6_view_110 : decode cX6_view 110 = .ok (.if_icmp .lt 7, 3) := by decide +kernel
theorem dX6_view_113 : decode cX6_view 113 = .ok (.ldc2_w 217, 3) := by decide +kernel
theorem dX6_view_116 : decode cX6_view 116 = .ok (.lreturn, 1) := by decide +kernel
theorem dX6_view_117 : decode cX6_view 117 = .ok (.aload_n 0, 1) := by decide +kernel
theorem dX6_view_118 : decode cX6_view 118 = .ok (.iconst 0, 1) := by decide +kernel
theorem dX6_view_119 : decode cX6_view 119 = .ok (.putfield 214, 3) := by decide +kernel
theorem dX6_view_122 : decode cX6_view 122 = .ok (.iload 4, 2) := by decide +kernel
theorem dX6_view_124 : decode cX6_view 124 = .ok (.ifCond .lt 20, 3) := by decide +kernel
theorem dX6_view_127 : decode cX6_view 127 = .ok (.aload_n 0, 1) := by decide +kernel
theorem dX6_view_128 : decode cX6_view 128 = .ok (.getfield 21, 3) := by decide +kernel
theorem dX6_view_131 : decode cX6_view 131 = .ok (.bipush 8, 2) := by decide +kernel
theorem dX6_view_133 : decode cX6_view 133 = .ok (.iload 6, 2) := by decide +kernel
theorem dX6_view_135 : decode cX6_view 135 = .ok (.imul, 1) := by decide +kernel
theorem dX6_view_136 : decode cX6_view 136 = .ok (.iload 4, 2) := by decide +kernel
theorem dX6_view_138 : decode cX6_view 138 = .ok (.iadd, 1) := by decide +kernel
theorem dX6_view_139 : decode cX6_view 139 = .ok (.iaload, 1) := by decide +kernel
theorem dX6_view_140 : decode cX6_view 140 = .ok (.i2l, 1) := by decide +kernel
theorem dX6_view_141 : decode cX6_view 141 = .ok (.goto 27, 3) := by decide +kernel
theorem dX6_view_144 : decode cX6_view 144 = .ok (.iload 5, 2) := by decide +kernel
theorem dX6_view_146 : decode cX6_view 146 = .ok (.iconst 2, 1) := by decide +kernel
theorem dX6_view_147 : decode cX6_view 147 = .ok (.if_icmp .ne 14, 3) := by decide +kernel
theorem dX6_view_150 : decode cX6_view 150 = .ok (.aload_n 0, 1) := by decide +kernel
theorem dX6_view_151 : decode cX6_view 151 = .ok (.getfield 17, 3) := by decide +kernel
theorem dX6_view_154 : decode cX6_view 154 = .ok (.iload 6, 2) := by decide +kernel
theorem dX6_view_156 : decode cX6_view 156 = .ok (.iaload, 1) := by decide +kernel
theorem dX6_view_157 : decode cX6_view 157 = .ok (.i2l, 1) := by decide +kernel
theorem dX6_view_158 : decode cX6_view 158 = .ok (.goto 10, 3) := by decide +kernel
theorem dX6_view_161 : decode cX6_view 161 = .ok (.aload_n 0, 1) := by decide +kernel
theorem dX6_view_162 : decode cX6_view 162 = .ok (.getfield 13, 3) := by decide +kernel
theorem dX6_view_165 : decode cX6_view 165 = .ok (.iload 6, 2) := by decide +kernel
theorem dX6_view_167 : decode cX6_view 167 = .ok (.laload, 1) := by decide +kernel
theorem dX6_view_168 : decode cX6_view 168 = .ok (.lreturn, 1) := by decide +kernel
theorem dX6_status_0 : decode cX6_status 0 = .ok (.aload_n 0, 1) := by decide +kernel
theorem dX6_status_1 : decode cX6_status 1 = .ok (.getfield 214, 3) := by decide +kernel
theorem dX6_status_4 : decode cX6_status 4 = .ok (.ireturn, 1) := by decide +kernel
theorem dX6_told_0 : decode cX6_told 0 = .ok (.iconst 0, 1) := by decide +kernel
theorem dX6_told_1 : decode cX6_told 1 = .ok (.istore_n 2, 1) := by decide +kernel
theorem dX6_told_2 : decode cX6_told 2 = .ok (.iconst 0, 1) := by decide +kernel
theorem dX6_told_3 : decode cX6_told 3 = .ok (.istore_n 3, 1) := by decide +kernel
theorem dX6_told_4 : decode cX6_told 4 = .ok (.iconst 0, 1) := by decide +kernel
theorem dX6_told_5 : decode cX6_told 5 = .ok (.istore 4, 2) := by decide +kernel
theorem dX6_told_7 : decode cX6_told 7 = .ok (.iload 4, 2) := by decide +kernel
theorem dX6_told_9 : decode cX6_told 9 = .ok (.bipush 24, 2) := by decide +kernel
theorem dX6_told_11 : decode cX6_told 11 = .ok (.if_icmp .ge 27, 3) := by decide +kernel
theorem dX6_told_14 : decode cX6_told 14 = .ok (.iload_n 2, 1) := by decide +kernel
theorem dX6_told_15 : decode cX6_told 15 = .ok (.aload_n 0, 1) := by decide +kernel
theorem dX6_told_16 : decode cX6_told 16 = .ok (.getfield 65, 3) := by decide +kernel
theorem dX6_told_19 : decode cX6_told 19 = .ok (.iload 4, 2) := by decide +kernel
theorem dX6_told_21 : decode cX6_told 21 = .ok (.baload, 1) := by decide +kernel
theorem dX6_told_22 : decode cX6_told 22 = .ok (.ifCond .eq 7, 3) := by decide +kernel
theorem dX6_told_25 : decode cX6_told 25 = .ok (.iconst 1, 1) := by decide +kernel
theorem dX6_told_26 : decode cX6_told 26 = .ok (.goto 4, 3) := by decide +kernel
theorem dX6_told_29 : decode cX6_told 29 = .ok (.iconst 0, 1) := by decide +kernel
theorem dX6_told_30 : decode cX6_told 30 = .ok (.iadd, 1) := by decide +kernel
theorem dX6_told_31 : decode cX6_told 31 = .ok (.istore_n 2, 1) := by decide +kernel
theorem dX6_told_32 : decode cX6_told 32 = .ok (.iinc 4 1, 3) := by decide +kernel
theorem dX6_told_35 : decode cX6_told 35 = .ok (.goto (-28), 3) := by decide +kernel
theorem dX6_told_38 : decode cX6_told 38 = .ok (.iconst 0, 1) := by decide +kernel
theorem dX6_told_39 : decode cX6_told 39 = .ok (.istore 4, 2) := by decide +kernel
theorem dX6_told_41 : decode cX6_told 41 = .ok (.iload 4, 2) := by decide +kernel
theorem dX6_told_43 : decode cX6_told 43 = .ok (.aload_n 0, 1) := by decide +kernel
theorem dX6_told_44 : decode cX6_told 44 = .ok (.getfield 152, 3) := by decide +kernel
theorem dX6_told_47 : decode cX6_told 47 = .ok (.if_icmp .ge 19, 3) := by decide +kernel
theorem dX6_told_50 : decode cX6_told 50 = .ok (.iload_n 3, 1) := by decide +kernel
theorem dX6_told_51 : decode cX6_told 51 = .ok (.aload_n 0, 1) := by decide +kernel
theorem dX6_told_52 : decode cX6_told 52 = .ok (.getfield 59, 3) := by decide +kernel
theorem dX6_told_55 : decode cX6_told 55 = .ok (.iload 4, 2) := by decide +kernel
theorem dX6_told_57 : decode cX6_told 57 = .ok (.iaload, 1) := by decide +kernel
theorem dX6_told_58 : decode cX6_told 58 = .ok (.iadd, 1) := by decide +kernel
theorem dX6_told_59 : decode cX6_told 59 = .ok (.istore_n 3, 1) := by decide +kernel
theorem dX6_told_60 : decode cX6_told 60 = .ok (.iinc 4 1, 3) := by decide +kernel
theorem dX6_told_63 : decode cX6_told 63 = .ok (.goto (-22), 3) := by decide +kernel
theorem dX6_told_66 : decode cX6_told 66 = .ok (.iload_n 1, 1) := by decide +kernel
theorem dX6_told_67 : decode cX6_told 67 = .ok (.tableswitch 88 0 8 #[49, 54, 59, 64, 69, 71, 76, 78, 83], 49) := by decide +kernel
theorem dX6_told_116 : decode cX6_told 116 = .ok (.aload_n 0, 1) := by decide +kernel
theorem dX6_told_117 : decode cX6_told 117 = .ok (.getfield 74, 3) := by decide +kernel
theorem dX6_told_120 : decode cX6_told 120 = .ok (.ireturn, 1) := by decide +kernel
theorem dX6_told_121 : decode cX6_told 121 = .ok (.aload_n 0, 1) := by decide +kernel
theorem dX6_told_122 : decode cX6_told 122 = .ok (.getfield 104, 3) := by decide +kernel
theorem dX6_told_125 : decode cX6_told 125 = .ok (.ireturn, 1) := by decide +kernel
theorem dX6_told_126 : decode cX6_told 126 = .ok (.aload_n 0, 1) := by decide +kernel
theorem dX6_told_127 : decode cX6_told 127 = .ok (.getfield 149, 3) := by decide +kernel
theorem dX6_told_130 : decode cX6_told 130 = .ok (.ireturn, 1) := by decide +kernel
theorem dX6_told_131 : decode cX6_told 131 = .ok (.aload_n 0, 1) := by decide +kernel
theorem dX6_told_132 : decode cX6_told 132 = .ok (.getfield 152, 3) := by decide +kernel
theorem dX6_told_135 : decode cX6_told 135 = .ok (.ireturn, 1) := by decide +kernel
theorem dX6_told_136 : decode cX6_told 136 = .ok (.iload_n 3, 1) := by decide +kernel
theorem dX6_told_137 : decode cX6_told 137 = .ok (.ireturn, 1) := by decide +kernel
theorem dX6_told_138 : decode cX6_told 138 = .ok (.aload_n 0, 1) := by decide +kernel
theorem dX6_told_139 : decode cX6_told 139 = .ok (.getfield 196, 3) := by decide +kernel
theorem dX6_told_142 : decode cX6_told 142 = .ok (.ireturn, 1) := by decide +kernel
theorem dX6_told_143 : decode cX6_told 143 = .ok (.iload_n 2, 1) := by decide +kernel
theorem dX6_told_144 : decode cX6_told 144 = .ok (.ireturn, 1) := by decide +kernel
theorem dX6_told_145 : decode cX6_told 145 = .ok (.aload_n 0, 1) := by decide +kernel
theorem dX6_told_146 : decode cX6_told 146 = .ok (.getfield 199, 3) := by decide +kernel
theorem dX6_told_149 : decode cX6_told 149 = .ok (.ireturn, 1) := by decide +kernel
theorem dX6_told_150 : decode cX6_told 150 = .ok (.aload_n 0, 1) := by decide +kernel
theorem dX6_told_151 : decode cX6_told 151 = .ok (.getfield 202, 3) := by decide +kernel
theorem dX6_told_154 : decode cX6_told 154 = .ok (.ireturn, 1) := by decide +kernel
theorem dX6_told_155 : decode cX6_told 155 = .ok (.iconst (-1), 1) := by decide +kernel
theorem dX6_told_156 : decode cX6_told 156 = .ok (.ireturn, 1) := by decide +kernel
theorem dJ6_bitCount_0f7a4_0 : decode cJ6_bitCount_0f7a4 0 = .ok (.iload_n 0, 1) := by decide +kernel
theorem dJ6_bitCount_0f7a4_1 : decode cJ6_bitCount_0f7a4 1 = .ok (.iload_n 0, 1) := by decide +kernel
theorem dJ6_bitCount_0f7a4_2 : decode cJ6_bitCount_0f7a4 2 = .ok (.iconst 1, 1) := by decide +kernel
theorem dJ6_bitCount_0f7a4_3 : decode cJ6_bitCount_0f7a4 3 = .ok (.iushr, 1) := by decide +kernel
theorem dJ6_bitCount_0f7a4_4 : decode cJ6_bitCount_0f7a4 4 = .ok (.ldc_w 265, 3) := by decide +kernel
theorem dJ6_bitCount_0f7a4_7 : decode cJ6_bitCount_0f7a4 7 = .ok (.iand, 1) := by decide +kernel
theorem dJ6_bitCount_0f7a4_8 : decode cJ6_bitCount_0f7a4 8 = .ok (.isub, 1) := by decide +kernel
theorem dJ6_bitCount_0f7a4_9 : decode cJ6_bitCount_0f7a4 9 = .ok (.istore_n 0, 1) := by decide +kernel
theorem dJ6_bitCount_0f7a4_10 : decode cJ6_bitCount_0f7a4 10 = .ok (.iload_n 0, 1) := by decide +kernel
theorem dJ6_bitCount_0f7a4_11 : decode cJ6_bitCount_0f7a4 11 = .ok (.ldc_w 266, 3) := by decide +kernel
theorem dJ6_bitCount_0f7a4_14 : decode cJ6_bitCount_0f7a4 14 = .ok (.iand, 1) := by decide +kernel
theorem dJ6_bitCount_0f7a4_15 : decode cJ6_bitCount_0f7a4 15 = .ok (.iload_n 0, 1) := by decide +kernel
theorem dJ6_bitCount_0f7a4_16 : decode cJ6_bitCount_0f7a4 16 = .ok (.iconst 2, 1) := by decide +kernel
theorem dJ6_bitCount_0f7a4_17 : decode cJ6_bitCount_0f7a4 17 = .ok (.iushr, 1) := by decide +kernel
theorem dJ6_bitCount_0f7a4_18 : decode cJ6_bitCount_0f7a4 18 = .ok (.ldc_w 266, 3) := by decide +kernel
theorem dJ6_bitCount_0f7a4_21 : decode cJ6_bitCount_0f7a4 21 = .ok (.iand, 1) := by decide +kernel
theorem dJ6_bitCount_0f7a4_22 : decode cJ6_bitCount_0f7a4 22 = .ok (.iadd, 1) := by decide +kernel
theorem dJ6_bitCount_0f7a4_23 : decode cJ6_bitCount_0f7a4 23 = .ok (.istore_n 0, 1) := by decide +kernel
theorem dJ6_bitCount_0f7a4_24 : decode cJ6_bitCount_0f7a4 24 = .ok (.iload_n 0, 1) := by decide +kernel
theorem dJ6_bitCount_0f7a4_25 : decode cJ6_bitCount_0f7a4 25 = .ok (.iload_n 0, 1) := by decide +kernel
theorem dJ6_bitCount_0f7a4_26 : decode cJ6_bitCount_0f7a4 26 = .ok (.iconst 4, 1) := by decide +kernel
theorem dJ6_bitCount_0f7a4_27 : decode cJ6_bitCount_0f7a4 27 = .ok (.iushr, 1) := by decide +kernel
theorem dJ6_bitCount_0f7a4_28 : decode cJ6_bitCount_0f7a4 28 = .ok (.iadd, 1) := by decide +kernel
theorem dJ6_bitCount_0f7a4_29 : decode cJ6_bitCount_0f7a4 29 = .ok (.ldc_w 267, 3) := by decide +kernel
theorem dJ6_bitCount_0f7a4_32 : decode cJ6_bitCount_0f7a4 32 = .ok (.iand, 1) := by decide +kernel
theorem dJ6_bitCount_0f7a4_33 : decode cJ6_bitCount_0f7a4 33 = .ok (.istore_n 0, 1) := by decide +kernel
theorem dJ6_bitCount_0f7a4_34 : decode cJ6_bitCount_0f7a4 34 = .ok (.iload_n 0, 1) := by decide +kernel
theorem dJ6_bitCount_0f7a4_35 : decode cJ6_bitCount_0f7a4 35 = .ok (.iload_n 0, 1) := by decide +kernel
theorem dJ6_bitCount_0f7a4_36 : decode cJ6_bitCount_0f7a4 36 = .ok (.bipush 8, 2) := by decide +kernel
theorem dJ6_bitCount_0f7a4_38 : decode cJ6_bitCount_0f7a4 38 = .ok (.iushr, 1) := by decide +kernel
theorem dJ6_bitCount_0f7a4_39 : decode cJ6_bitCount_0f7a4 39 = .ok (.iadd, 1) := by decide +kernel
theorem dJ6_bitCount_0f7a4_40 : decode cJ6_bitCount_0f7a4 40 = .ok (.istore_n 0, 1) := by decide +kernel
theorem dJ6_bitCount_0f7a4_41 : decode cJ6_bitCount_0f7a4 41 = .ok (.iload_n 0, 1) := by decide +kernel
theorem dJ6_bitCount_0f7a4_42 : decode cJ6_bitCount_0f7a4 42 = .ok (.iload_n 0, 1) := by decide +kernel
theorem dJ6_bitCount_0f7a4_43 : decode cJ6_bitCount_0f7a4 43 = .ok (.bipush 16, 2) := by decide +kernel
theorem dJ6_bitCount_0f7a4_45 : decode cJ6_bitCount_0f7a4 45 = .ok (.iushr, 1) := by decide +kernel
theorem dJ6_bitCount_0f7a4_46 : decode cJ6_bitCount_0f7a4 46 = .ok (.iadd, 1) := by decide +kernel
theorem dJ6_bitCount_0f7a4_47 : decode cJ6_bitCount_0f7a4 47 = .ok (.istore_n 0, 1) := by decide +kernel
theorem dJ6_bitCount_0f7a4_48 : decode cJ6_bitCount_0f7a4 48 = .ok (.iload_n 0, 1) := by decide +kernel
theorem dJ6_bitCount_0f7a4_49 : decode cJ6_bitCount_0f7a4 49 = .ok (.bipush 63, 2) := by decide +kernel
theorem dJ6_bitCount_0f7a4_51 : decode cJ6_bitCount_0f7a4 51 = .ok (.iand, 1) := by decide +kernel
theorem dJ6_bitCount_0f7a4_52 : decode cJ6_bitCount_0f7a4 52 = .ok (.ireturn, 1) := by decide +kernel
theorem dJ7_fill_d0a16_0 : decode cJ7_fill_d0a16 0 = .ok (.iconst 0, 1) := by decide +kernel
theorem dJ7_fill_d0a16_1 : decode cJ7_fill_d0a16 1 = .ok (.istore_n 3, 1) := by decide +kernel
theorem dJ7_fill_d0a16_2 : decode cJ7_fill_d0a16 2 = .ok (.aload_n 0, 1) := by decide +kernel
theorem dJ7_fill_d0a16_3 : decode cJ7_fill_d0a16 3 = .ok (.arraylength, 1) := by decide +kernel
theorem dJ7_fill_d0a16_4 : decode cJ7_fill_d0a16 4 = .ok (.istore 4, 2) := by decide +kernel
theorem dJ7_fill_d0a16_6 : decode cJ7_fill_d0a16 6 = .ok (.iload_n 3, 1) := by decide +kernel
theorem dJ7_fill_d0a16_7 : decode cJ7_fill_d0a16 7 = .ok (.iload 4, 2) := by decide +kernel
theorem dJ7_fill_d0a16_9 : decode cJ7_fill_d0a16 9 = .ok (.if_icmp .ge 13, 3) := by decide +kernel
theorem dJ7_fill_d0a16_12 : decode cJ7_fill_d0a16 12 = .ok (.aload_n 0, 1) := by decide +kernel
theorem dJ7_fill_d0a16_13 : decode cJ7_fill_d0a16 13 = .ok (.iload_n 3, 1) := by decide +kernel
theorem dJ7_fill_d0a16_14 : decode cJ7_fill_d0a16 14 = .ok (.lload_n 1, 1) := by decide +kernel
theorem dJ7_fill_d0a16_15 : decode cJ7_fill_d0a16 15 = .ok (.lastore, 1) := by decide +kernel
theorem dJ7_fill_d0a16_16 : decode cJ7_fill_d0a16 16 = .ok (.iinc 3 1, 3) := by decide +kernel
theorem dJ7_fill_d0a16_19 : decode cJ7_fill_d0a16 19 = .ok (.goto (-13), 3) := by decide +kernel
theorem dJ7_fill_d0a16_22 : decode cJ7_fill_d0a16 22 = .ok (.return_, 1) := by decide +kernel
theorem dJ7_fill_53178_0 : decode cJ7_fill_53178 0 = .ok (.iconst 0, 1) := by decide +kernel
theorem dJ7_fill_53178_1 : decode cJ7_fill_53178 1 = .ok (.istore_n 2, 1) := by decide +kernel
theorem dJ7_fill_53178_2 : decode cJ7_fill_53178 2 = .ok (.aload_n 0, 1) := by decide +kernel
theorem dJ7_fill_53178_3 : decode cJ7_fill_53178 3 = .ok (.arraylength, 1) := by decide +kernel
theorem dJ7_fill_53178_4 : decode cJ7_fill_53178 4 = .ok (.istore_n 3, 1) := by decide +kernel
theorem dJ7_fill_53178_5 : decode cJ7_fill_53178 5 = .ok (.iload_n 2, 1) := by decide +kernel
theorem dJ7_fill_53178_6 : decode cJ7_fill_53178 6 = .ok (.iload_n 3, 1) := by decide +kernel
theorem dJ7_fill_53178_7 : decode cJ7_fill_53178 7 = .ok (.if_icmp .ge 13, 3) := by decide +kernel
theorem dJ7_fill_53178_10 : decode cJ7_fill_53178 10 = .ok (.aload_n 0, 1) := by decide +kernel
theorem dJ7_fill_53178_11 : decode cJ7_fill_53178 11 = .ok (.iload_n 2, 1) := by decide +kernel
theorem dJ7_fill_53178_12 : decode cJ7_fill_53178 12 = .ok (.iload_n 1, 1) := by decide +kernel
theorem dJ7_fill_53178_13 : decode cJ7_fill_53178 13 = .ok (.iastore, 1) := by decide +kernel
theorem dJ7_fill_53178_14 : decode cJ7_fill_53178 14 = .ok (.iinc 2 1, 3) := by decide +kernel
theorem dJ7_fill_53178_17 : decode cJ7_fill_53178 17 = .ok (.goto (-12), 3) := by decide +kernel
theorem dJ7_fill_53178_20 : decode cJ7_fill_53178 20 = .ok (.return_, 1) := by decide +kernel
