theorem dX9_init_0 : decode cX9_init 0 = .ok (.aload_n 0, 1) := by decide +kernel
theorem dX9_init_1 : decode cX9_init 1 = .ok (.invokespecial 1, 3) := by decide +kernel
theorem dX9_init_4 : decode cX9_init 4 = .ok (.aload_n 0, 1) := by decide +kernel
theorem dX9_init_5 : decode cX9_init 5 = .ok (.bipush 93, 2) := by decide +kernel
theorem dX9_init_7 : decode cX9_init 7 = .ok (.newarray .int, 2) := by decide +kernel
theorem dX9_init_9 : decode cX9_init 9 = .ok (.putfield 7, 3) := by decide +kernel
theorem dX9_init_12 : decode cX9_init 12 = .ok (.aload_n 0, 1) := by decide +kernel
theorem dX9_init_13 : decode cX9_init 13 = .ok (.iconst 3, 1) := by decide +kernel
theorem dX9_init_14 : decode cX9_init 14 = .ok (.newarray .int, 2) := by decide +kernel
theorem dX9_init_16 : decode cX9_init 16 = .ok (.putfield 13, 3) := by decide +kernel
theorem dX9_init_19 : decode cX9_init 19 = .ok (.aload_n 0, 1) := by decide +kernel
theorem dX9_init_20 : decode cX9_init 20 = .ok (.iconst 3, 1) := by decide +kernel
theorem dX9_init_21 : decode cX9_init 21 = .ok (.newarray .int, 2) := by decide +kernel
theorem dX9_init_23 : decode cX9_init 23 = .ok (.putfield 16, 3) := by decide +kernel
theorem dX9_init_26 : decode cX9_init 26 = .ok (.aload_n 0, 1) := by decide +kernel
theorem dX9_init_27 : decode cX9_init 27 = .ok (.iconst 3, 1) := by decide +kernel
theorem dX9_init_28 : decode cX9_init 28 = .ok (.newarray .int, 2) := by decide +kernel
theorem dX9_init_30 : decode cX9_init 30 = .ok (.putfield 19, 3) := by decide +kernel
theorem dX9_init_33 : decode cX9_init 33 = .ok (.aload_n 0, 1) := by decide +kernel
theorem dX9_init_34 : decode cX9_init 34 = .ok (.bipush 6, 2) := by decide +kernel
theorem dX9_init_36 : decode cX9_init 36 = .ok (.newarray .int, 2) := by decide +kernel
theorem dX9_init_38 : decode cX9_init 38 = .ok (.putfield 22, 3) := by decide +kernel
theorem dX9_init_41 : decode cX9_init 41 = .ok (.aload_n 0, 1) := by decide +kernel
theorem dX9_init_42 : decode cX9_init 42 = .ok (.bipush 12, 2) := by decide +kernel
theorem dX9_init_44 : decode cX9_init 44 = .ok (.newarray .int, 2) := by decide +kernel
theorem dX9_init_46 : decode cX9_init 46 = .ok (.putfield 25, 3) := by decide +kernel
theorem dX9_init_49 : decode cX9_init 49 = .ok (.aload_n 0, 1) := by decide +kernel
theorem dX9_init_50 : decode cX9_init 50 = .ok (.sipush 480, 3) := by decide +kernel
theorem dX9_init_53 : decode cX9_init 53 = .ok (.newarray .int, 2) := by decide +kernel
theorem dX9_init_55 : decode cX9_init 55 = .ok (.putfield 28, 3) := by decide +kernel
theorem dX9_init_58 : decode cX9_init 58 = .ok (.aload_n 0, 1) := by decide +kernel
theorem dX9_init_59 : decode cX9_init 59 = .ok (.sipush 480, 3) := by decide +kernel
theorem dX9_init_62 : decode cX9_init 62 = .ok (.newarray .int, 2) := by decide +kernel
theorem dX9_init_64 : decode cX9_init 64 = .ok (.putfield 31, 3) := by decide +kernel
theorem dX9_init_67 : decode cX9_init 67 = .ok (.aload_n 0, 1) := by decide +kernel
theorem dX9_init_68 : decode cX9_init 68 = .ok (.sipush 480, 3) := by decide +kernel
theorem dX9_init_71 : decode cX9_init 71 = .ok (.newarray .int, 2) := by decide +kernel
theorem dX9_init_73 : decode cX9_init 73 = .ok (.putfield 34, 3) := by decide +kernel
theorem dX9_init_76 : decode cX9_init 76 = .ok (.aload_n 0, 1) := by decide +kernel
theorem dX9_init_77 : decode cX9_init 77 = .ok (.sipush 480, 3) := by decide +kernel
theorem dX9_init_80 : decode cX9_init 80 = .ok (.newarray .boolean, 2) := by decide +kernel
theorem dX9_init_82 : decode cX9_init 82 = .ok (.putfield 37, 3) := by decide +kernel
theorem dX9_init_85 : decode cX9_init 85 = .ok (.aload_n 0, 1) := by decide +kernel
theorem dX9_init_86 : decode cX9_init 86 = .ok (.iconst 5, 1) := by decide +kernel
theorem dX9_init_87 : decode cX9_init 87 = .ok (.newarray .int, 2) := by decide +kernel
theorem dX9_init_89 : decode cX9_init 89 = .ok (.putfield 41, 3) := by decide +kernel
theorem dX9_init_92 : decode cX9_init 92 = .ok (.aload_n 0, 1) := by decide +kernel
theorem dX9_init_93 : decode cX9_init 93 = .ok (.bipush 100, 2) := by decide +kernel
theorem dX9_init_95 : decode cX9_init 95 = .ok (.newarray .int, 2) := by decide +kernel
theorem dX9_init_97 : decode cX9_init 97 = .ok (.putfield 44, 3) := by decide +kernel
theorem dX9_init_100 : decode cX9_init 100 = .ok (.aload_n 0, 1) := by decide +kernel
theorem dX9_init_101 : decode cX9_init 101 = .ok (.bipush 8, 2) := by decide +kernel
theorem dX9_init_103 : decode cX9_init 103 = .ok (.newarray .int, 2) := by decide +kernel
theorem dX9_init_105 : decode cX9_init 105 = .ok (.putfield 47, 3) := by decide +kernel
theorem dX9_init_108 : decode cX9_init 108 = .ok (.aload_n 0, 1) := by decide +kernel
theorem dX9_init_109 : decode cX9_init 109 = .ok (.bipush 8, 2) := by decide +kernel
theorem dX9_init_111 : decode cX9_init 111 = .ok (.newarray .int, 2) := by decide +kernel
theorem dX9_init_113 : decode cX9_init 113 = .ok (.putfield 50, 3) := by decide +kernel
theorem dX9_init_116 : decode cX9_init 116 = .ok (.aload_n 0, 1) := by decide +kernel
theorem dX9_init_117 : decode cX9_init 117 = .ok (.bipush 8, 2) := by decide +kernel
theorem dX9_init_119 : decode cX9_init 119 = .ok (.newarray .int, 2) := by decide +kernel
theorem dX9_init_121 : decode cX9_init 121 = .ok (.putfield 53, 3) := by decide +kernel
theorem dX9_init_124 : decode cX9_init 124 = .ok (.aload_n 0, 1) := by decide +kernel
theorem dX9_init_125 : decode cX9_init 125 = .ok (.bipush 8, 2) := by decide +kernel
theorem dX9_init_127 : decode cX9_init 127 = .ok (.newarray .int, 2) := by decide +kernel
theorem dX9_init_129 : decode cX9_init 129 = .ok (.putfield 56, 3) := by decide +kernel
theorem dX9_init_132 : decode cX9_init 132 = .ok (.aload_n 0, 1) := by decide +kernel
theorem dX9_init_133 : decode cX9_init 133 = .ok (.bipush 8, 2) := by decide +kernel
theorem dX9_init_135 : decode cX9_init 135 = .ok (.newarray .int, 2) := by decide +kernel
theorem dX9_init_137 : decode cX9_init 137 = .ok (.putfield 59, 3) := by decide +kernel
theorem dX9_init_140 : decode cX9_init 140 = .ok (.aload_n 0, 1) := by decide +kernel
theorem dX9_init_141 : decode cX9_init 141 = .ok (.bipush 8, 2) := by decide +kernel
theorem dX9_init_143 : decode cX9_init 143 = .ok (.newarray .int, 2) := by decide +kernel
theorem dX9_init_145 : decode cX9_init 145 = .ok (.putfield 62, 3) := by decide +kernel
theorem dX9_init_148 : decode cX9_init 148 = .ok (.aload_n 0, 1) := by decide +kernel
theorem dX9_init_149 : decode cX9_init 149 = .ok (.bipush 96, 2) := by decide +kernel
theorem dX9_init_151 : decode cX9_init 151 = .ok (.newarray .int, 2) := by decide +kernel
theorem dX9_init_153 : decode cX9_init 153 = .ok (.putfield 65, 3) := by decide +kernel
theorem dX9_init_156 : decode cX9_init 156 = .ok (.aload_n 0, 1) := by decide +kernel
theorem dX9_init_157 : decode cX9_init 157 = .ok (.bipush 96, 2) := by decide +kernel
theorem dX9_init_159 : decode cX9_init 159 = .ok (.newarray .int, 2) := by decide +kernel
theorem dX9_init_161 : decode cX9_init 161 = .ok (.putfield 68, 3) := by decide +kernel
theorem dX9_init_164 : decode cX9_init 164 = .ok (.aload_n 0, 1) := by decide +kernel
theorem dX9_init_165 : decode cX9_init 165 = .ok (.bipush 96, 2) := by decide +kernel
theorem dX9_init_167 : decode cX9_init 167 = .ok (.newarray .boolean, 2) := by decide +kernel
theorem dX9_init_169 : decode cX9_init 169 = .ok (.putfield 71, 3) := by decide +kernel
theorem dX9_init_172 : decode cX9_init 172 = .ok (.aload_n 0, 1) := by decide +kernel
theorem dX9_init_173 : decode cX9_init 173 = .ok (.bipush 12, 2) := by decide +kernel
theorem dX9_init_175 : decode cX9_init 175 = .ok (.newarray .int, 2) := by decide +kernel
theorem dX9_init_177 : decode cX9_init 177 = .ok (.putfield 74, 3) := by decide +kernel
theorem dX9_init_180 : decode cX9_init 180 = .ok (.aload_n 0, 1) := by decide +kernel
theorem dX9_init_181 : decode cX9_init 181 = .ok (.bipush 12, 2) := by decide +kernel
theorem dX9_init_183 : decode cX9_init 183 = .ok (.newarray .int, 2) := by decide +kernel
theorem dX9_init_185 : decode cX9_init 185 = .ok (.putfield 77, 3) := by decide +kernel
theorem dX9_init_188 : decode cX9_init 188 = .ok (.aload_n 0, 1) := by decide +kernel
theorem dX9_init_189 : decode cX9_init 189 = .ok (.iconst 4, 1) := by decide +kernel
theorem dX9_init_190 : decode cX9_init 190 = .ok (.newarray .int, 2) := by decide +kernel
theorem dX9_init_192 : decode cX9_init 192 = .ok (.putfield 80, 3) := by decide +kernel
theorem dX9_init_195 : decode cX9_init 195 = .ok (.aload_n 0, 1) := by decide +kernel
theorem dX9_init_196 : decode cX9_init 196 = .ok (.iconst 4, 1) := by decide +kernel
theorem dX9_init_197 : decode cX9_init 197 = .ok (.newarray .int, 2) := by decide +kernel
theorem dX9_init_199 : decode cX9_init 199 = .ok (.putfield 83, 3) := by decide +kernel
theorem dX9_init_202 : decode cX9_init 202 = .ok (.aload_n 0, 1) := by decide +kernel
theorem dX9_init_203 : decode cX9_init 203 = .ok (.sipush 160, 3) := by decide +kernel
theorem dX9_init_206 : decode cX9_init 206 = .ok (.newarray .int, 2) := by decide +kernel
theorem dX9_init_208 : decode cX9_init 208 = .ok (.putfield 86, 3) := by decide +kernel
theorem dX9_init_211 : decode cX9_init 211 = .ok (.aload_n 0, 1) := by decide +kernel
theorem dX9_init_212 : decode cX9_init 212 = .ok (.bipush 40, 2) := by decide +kernel
theorem dX9_init_214 : decode cX9_init 214 = .ok (.newarray .int, 2) := by decide +kernel
theorem dX9_init_216 : decode cX9_init 216 = .ok (.putfield 89, 3) := by decide +kernel
theorem dX9_init_219 : decode cX9_init 219 = .ok (.iconst 0, 1) := by decide +kernel
theorem dX9_init_220 : decode cX9_init 220 = .ok (.istore_n 1, 1) := by decide +kernel
theorem dX9_init_221 : decode cX9_init 221 = .ok (.iload_n 1, 1) := by decide +kernel
theorem dX9_init_222 : decode cX9_init 222 = .ok (.iconst 4, 1) := by decide +kernel
theorem dX9_init_223 : decode cX9_init 223 = .ok (.if_icmp .ge 16, 3) := by decide +kernel
theorem dX9_init_226 : decode cX9_init 226 = .ok (.aload_n 0, 1) := by decide +kernel
theorem dX9_init_227 : decode cX9_init 227 = .ok (.getfield 80, 3) := by decide +kernel
theorem dX9_init_230 : decode cX9_init 230 = .ok (.iload_n 1, 1) := by decide +kernel
theorem dX9_init_231 : decode cX9_init 231 = .ok (.iconst (-1), 1) := by decide +kernel
theorem dX9_init_232 : decode cX9_init 232 = .ok (.iastore, 1) := by decide +kernel
theorem dX9_init_233 : decode cX9_init 233 = .ok (.iinc 1 1, 3) := by decide +kernel
theorem dX9_init_236 : decode cX9_init 236 = .ok (.goto (-15), 3) := by decide +kernel
theorem dX9_init_239 : decode cX9_init 239 = .ok (.iconst 0, 1) := by decide +kernel
theorem dX9_init_240 : decode cX9_init 240 = .ok (.istore_n 1, 1) := by decide +kernel
theorem dX9_init_241 : decode cX9_init 241 = .ok (.iconst 0, 1) := by decide +kernel
theorem dX9_init_242 : decode cX9_init 242 = .ok (.istore_n 2, 1) := by decide +kernel
theorem dX9_init_243 : decode cX9_init 243 = .ok (.iload_n 2, 1) := by decide +kernel
theorem dX9_init_244 : decode cX9_init 244 = .ok (.iconst 3, 1) := by decide +kernel
theorem dX9_init_245 : decode cX9_init 245 = .ok (.if_icmp .gt 42, 3) := by decide +kernel
theorem dX9_init_248 : decode cX9_init 248 = .ok (.iconst 0, 1) := by decide +kernel
theorem dX9_init_249 : decode cX9_init 249 = .ok (.istore_n 3, 1) := by decide +kernel
theorem dX9_init_250 : decode cX9_init 250 = .ok (.iload_n 3, 1) := by decide +kernel
theorem dX9_init_251 : decode cX9_init 251 = .ok (.sipush 256, 3) := by decide +kernel
theorem dX9_init_254 : decode cX9_init 254 = .ok (.if_icmp .ge 27, 3) := by decide +kernel
theorem dX9_init_257 : decode cX9_init 257 = .ok (.iload_n 3, 1) := by decide +kernel
theorem dX9_init_258 : decode cX9_init 258 = .ok (.invokestatic 92, 3) := by decide +kernel
theorem dX9_init_261 : decode cX9_init 261 = .ok (.iload_n 2, 1) := by decide +kernel
theorem dX9_init_262 : decode cX9_init 262 = .ok (.if_icmp .ne 13, 3) := by decide +kernel
theorem dX9_init_265 : decode cX9_init 265 = .ok (.aload_n 0, 1) := by decide +kernel
theorem dX9_init_266 : decode cX9_init 266 = .ok (.getfield 7, 3) := by decide +kernel
theorem dX9_init_269 : decode cX9_init 269 = .ok (.iload_n 1, 1) := by decide +kernel
theorem dX9_init_270 : decode cX9_init 270 = .ok (.iload_n 3, 1) := by decide +kernel
theorem dX9_init_271 : decode cX9_init 271 = .ok (.iastore, 1) := by decide +kernel
theorem dX9_init_272 : decode cX9_init 272 = .ok (.iinc 1 1, 3) := by decide +kernel
theorem dX9_init_275 : decode cX9_init 275 = .ok (.iinc 3 1, 3) := by decide +kernel
theorem dX9_init_278 : decode cX9_init 278 = .ok (.goto (-28), 3) := by decide +kernel
theorem dX9_init_281 : decode cX9_init 281 = .ok (.iinc 2 1, 3) := by decide +kernel
theorem dX9_init_284 : decode cX9_init 284 = .ok (.goto (-41), 3) := by decide +kernel
theorem dX9_init_287 : decode cX9_init 287 = .ok (.aload_n 0, 1) := by decide +kernel
theorem dX9_init_288 : decode cX9_init 288 = .ok (.getfield 41, 3) := by decide +kernel
theorem dX9_init_291 : decode cX9_init 291 = .ok (.iconst 0, 1) := by decide +kernel
theorem dX9_init_292 : decode cX9_init 292 = .ok (.bipush 10, 2) := by decide +kernel
theorem dX9_init_294 : decode cX9_init 294 = .ok (.iastore, 1) := by decide +kernel
theorem dX9_init_295 : decode cX9_init 295 = .ok (.aload_n 0, 1) := by decide +kernel
theorem dX9_init_296 : decode cX9_init 296 = .ok (.getfield 41, 3) := by decide +kernel
theorem dX9_init_299 : decode cX9_init 299 = .ok (.iconst 1, 1) := by decide +kernel
theorem dX9_init_300 : decode cX9_init 300 = .ok (.bipush 20, 2) := by decide +kernel
theorem dX9_init_302 : decode cX9_init 302 = .ok (.iastore, 1) := by decide +kernel
theorem dX9_init_303 : decode cX9_init 303 = .ok (.aload_n 0, 1) := by decide +kernel
theorem dX9_init_304 : decode cX9_init 304 = .ok (.getfield 41, 3) := by decide +kernel
theorem dX9_init_307 : decode cX9_init 307 = .ok (.iconst 2, 1) := by decide +kernel
theorem dX9_init_308 : decode cX9_init 308 = .ok (.iconst 5, 1) := by decide +kernel
theorem dX9_init_309 : decode cX9_init 309 = .ok (.iastore, 1) := by decide +kernel
theorem dX9_init_310 : decode cX9_init 310 = .ok (.aload_n 0, 1) := by decide +kernel
theorem dX9_init_311 : decode cX9_init 311 = .ok (.getfield 41, 3) := by decide +kernel
theorem dX9_init_314 : decode cX9_init 314 = .ok (.iconst 3, 1) := by decide +kernel
theorem dX9_init_315 : decode cX9_init 315 = .ok (.bipush 10, 2) := by decide +kernel
theorem dX9_init_317 : decode cX9_init 317 = .ok (.iastore, 1) := by decide +kernel
theorem dX9_init_318 : decode cX9_init 318 = .ok (.aload_n 0, 1) := by decide +kernel
theorem dX9_init_319 : decode cX9_init 319 = .ok (.getfield 41, 3) := by decide +kernel
theorem dX9_init_322 : decode cX9_init 322 = .ok (.iconst 4, 1) := by decide +kernel
theorem dX9_init_323 : decode cX9_init 323 = .ok (.bipush 50, 2) := by decide +kernel
theorem dX9_init_325 : decode cX9_init 325 = .ok (.iastore, 1) := by decide +kernel
theorem dX9_init_326 : decode cX9_init 326 = .ok (.aload_n 0, 1) := by decide +kernel
theorem dX9_init_327 : decode cX9_init 327 = .ok (.bipush (-4), 2) := by decide +kernel
theorem dX9_init_329 : decode cX9_init 329 = .ok (.putfield 96, 3) := by decide +kernel
theorem dX9_init_332 : decode cX9_init 332 = .ok (.return_, 1) := by decide +kernel
theorem dX9_sizeOf_0 : decode cX9_sizeOf 0 = .ok (.iconst 0, 1) := by decide +kernel
theorem dX9_sizeOf_1 : decode cX9_sizeOf 1 = .ok (.istore_n 1, 1) := by decide +kernel
theorem dX9_sizeOf_2 : decode cX9_sizeOf 2 = .ok (.iconst 0, 1) := by decide +kernel
theorem dX9_sizeOf_3 : decode cX9_sizeOf 3 = .ok (.istore_n 2, 1) := by decide +kernel
theorem dX9_sizeOf_4 : decode cX9_sizeOf 4 = .ok (.iload_n 2, 1) := by decide +kernel
theorem dX9_sizeOf_5 : decode cX9_sizeOf 5 = .ok (.bipush 12, 2) := by decide +kernel
theorem dX9_sizeOf_7 : decode cX9_sizeOf 7 = .ok (.if_icmp .ge 17, 3) := by decide +kernel
theorem dX9_sizeOf_10 : decode cX9_sizeOf 10 = .ok (.iload_n 1, 1) := by decide +kernel
theorem dX9_sizeOf_11 : decode cX9_sizeOf 11 = .ok (.iload_n 0, 1) := by decide +kernel
theorem dX9_sizeOf_12 : decode cX9_sizeOf 12 = .ok (.iload_n 2, 1) := by decide +kernel
theorem dX9_sizeOf_13 : decode cX9_sizeOf 13 = .ok (.ishr, 1) := by decide +kernel
theorem dX9_sizeOf_14 : decode cX9_sizeOf 14 = .ok (.iconst 1, 1) := by decide +kernel
theorem dX9_sizeOf_15 : decode cX9_sizeOf 15 = .ok (.iand, 1) := by decide +kernel
theorem dX9_sizeOf_16 : decode cX9_sizeOf 16 = .ok (.iadd, 1) := by decide +kernel
theorem dX9_sizeOf_17 : decode cX9_sizeOf 17 = .ok (.istore_n 1, 1) := by decide +kernel
theorem dX9_sizeOf_18 : decode cX9_sizeOf 18 = .ok (.iinc 2 1, 3) := by decide +kernel
theorem dX9_sizeOf_21 : decode cX9_sizeOf 21 = .ok (.goto (-17), 3) := by decide +kernel
theorem dX9_sizeOf_24 : decode cX9_sizeOf 24 = .ok (.iload_n 1, 1) := by decide +kernel
theorem dX9_sizeOf_25 : decode cX9_sizeOf 25 = .ok (.ireturn, 1) := by decide +kernel
set_option maxRecDepth 20000 in
theorem ggX9_isSet_X9_in : GoodIn wsX9_isSet wsX9_in := goodIn_r _ [5] (by decide +kernel) (by decide +kernel)
set_option maxRecDepth 20000 in
theorem gX9_isSet_X9_in : GoodIn wsX9_isSet (va_wsS RX9 102 yX9_in wsX9_in) := goodIn_app (goodIn_of _ (by decide +kernel)) ggX9_isSet_X9_in
theorem dX9_isSet_0 : decode cX9_isSet 0 = .ok (.iload_n 0, 1) := by decide +kernel
theorem dX9_isSet_1 : decode cX9_isSet 1 = .ok (.i2l, 1) := by decide +kernel
theorem dX9_isSet_2 : decode cX9_isSet 2 = .ok (.lconst 0, 1) := by decide +kernel
theorem dX9_isSet_3 : decode cX9_isSet 3 = .ok (.ldc2_w 100, 3) := by decide +kernel
theorem dX9_isSet_6 : decode cX9_isSet 6 = .ok (.invokestatic 102, 3) := by decide +kernel
theorem dX9_isSet_9 : decode cX9_isSet 9 = .ok (.ireturn, 1) := by decide +kernel
set_option maxRecDepth 20000 in
theorem ggX9_isTask_X9_in : GoodIn wsX9_isTask wsX9_in := goodIn_r _ [5] (by decide +kernel) (by decide +kernel)
set_option maxRecDepth 20000 in
theorem gX9_isTask_X9_in : GoodIn wsX9_isTask (va_wsS RX9 102 yX9_in wsX9_in) := goodIn_app (goodIn_of _ (by decide +kernel)) ggX9_isTask_X9_in
theorem dX9_isTask_0 : decode cX9_isTask 0 = .ok (.iload_n 1, 1) := by decide +kernel
theorem dX9_isTask_1 : decode cX9_isTask 1 = .ok (.i2l, 1) := by decide +kernel
theorem dX9_isTask_2 : decode cX9_isTask 2 = .ok (.lconst 0, 1) := by decide +kernel
theorem dX9_isTask_3 : decode cX9_isTask 3 = .ok (.ldc2_w 106, 3) := by decide +kernel
theorem dX9_isTask_6 : decode cX9_isTask 6 = .ok (.invokestatic 102, 3) := by decide +kernel
theorem dX9_isTask_9 : decode cX9_isTask 9 = .ok (.ifCond .eq 20, 3) := by decide +kernel
theorem dX9_isTask_12 : decode cX9_isTask 12 = .ok (.iload_n 0, 1) := by decide +kernel
theorem dX9_isTask_13 : decode cX9_isTask 13 = .ok (.i2l, 1) := by decide +kernel
theorem dX9_isTask_14 : decode cX9_isTask 14 = .ok (.iload_n 1, 1) := by decide +kernel
theorem dX9_isTask_15 : decode cX9_isTask 15 = .ok (.i2l, 1) := by decide +kernel
theorem dX9_isTask_16 : decode cX9_isTask 16 = .ok (.ldc2_w 106, 3) := by decide +kernel
theorem dX9_isTask_19 : decode cX9_isTask 19 = .ok (.invokestatic 102, 3) := by decide +kernel
theorem dX9_isTask_22 : decode cX9_isTask 22 = .ok (.ifCond .eq 7, 3) := by decide +kernel
theorem dX9_isTask_25 : decode cX9_isTask 25 = .ok (.iconst 1, 1) := by decide +kernel
theorem dX9_isTask_26 : decode cX9_isTask 26 = .ok (.goto 4, 3) := by decide +kernel
theorem dX9_isTask_29 : decode cX9_isTask 29 = .ok (.iconst 0, 1) := by decide +kernel
theorem dX9_isTask_30 : decode cX9_isTask 30 = .ok (.ireturn, 1) := by decide +kernel
theorem dX9_digitOf_0 : decode cX9_digitOf 0 = .ok (.iload_n 1, 1) := by decide +kernel
theorem dX9_digitOf_1 : decode cX9_digitOf 1 = .ok (.ifCond .ne 10, 3) := by decide +kernel
theorem dX9_digitOf_4 : decode cX9_digitOf 4 = .ok (.iload_n 0, 1) := by decide +kernel
theorem dX9_digitOf_5 : decode cX9_digitOf 5 = .ok (.bipush 10, 2) := by decide +kernel
theorem dX9_digitOf_7 : decode cX9_digitOf 7 = .ok (.irem, 1) := by decide +kernel
theorem dX9_digitOf_8 : decode cX9_digitOf 8 = .ok (.goto 22, 3) := by decide +kernel
theorem dX9_digitOf_11 : decode cX9_digitOf 11 = .ok (.iload_n 1, 1) := by decide +kernel
theorem dX9_digitOf_12 : decode cX9_digitOf 12 = .ok (.iconst 1, 1) := by decide +kernel
theorem dX9_digitOf_13 : decode cX9_digitOf 13 = .ok (.if_icmp .ne 13, 3) := by decide +kernel
theorem dX9_digitOf_16 : decode cX9_digitOf 16 = .ok (.iload_n 0, 1) := by decide +kernel
theorem dX9_digitOf_17 : decode cX9_digitOf 17 = .ok (.bipush 10, 2) := by decide +kernel
theorem dX9_digitOf_19 : decode cX9_digitOf 19 = .ok (.idiv, 1) := by decide +kernel
theorem dX9_digitOf_20 : decode cX9_digitOf 20 = .ok (.bipush 10, 2) := by decide +kernel
theorem dX9_digitOf_22 : decode cX9_digitOf 22 = .ok (.irem, 1) := by decide +kernel
theorem dX9_digitOf_23 : decode cX9_digitOf 23 = .ok (.goto 7, 3) := by decide +kernel
theorem dX9_digitOf_26 : decode cX9_digitOf 26 = .ok (.iload_n 0, 1) := by decide +kernel
theorem dX9_digitOf_27 : decode cX9_digitOf 27 = .ok (.bipush 100, 2) := by decide +kernel
theorem dX9_digitOf_29 : decode cX9_digitOf 29 = .ok (.idiv, 1) := by decide +kernel
theorem dX9_digitOf_30 : decode cX9_digitOf 30 = .ok (.ireturn, 1) := by decide +kernel
theorem dX9_pays_0 : decode cX9_pays 0 = .ok (.iload_n 1, 1) := by decide +kernel
theorem dX9_pays_1 : decode cX9_pays 1 = .ok (.istore_n 3, 1) := by decide +kernel
theorem dX9_pays_2 : decode cX9_pays 2 = .ok (.iload_n 3, 1) := by decide +kernel
theorem dX9_pays_3 : decode cX9_pays 3 = .ok (.iconst 3, 1) := by decide +kernel
theorem dX9_pays_4 : decode cX9_pays 4 = .ok (.if_icmp .ge 133, 3) := by decide +kernel
theorem dX9_pays_7 : decode cX9_pays 7 = .ok (.aload_n 0, 1) := by decide +kernel
theorem dX9_pays_8 : decode cX9_pays 8 = .ok (.getfield 13, 3) := by decide +kernel
theorem dX9_pays_11 : decode cX9_pays 11 = .ok (.iload_n 3, 1) := by decide +kernel
theorem dX9_pays_12 : decode cX9_pays 12 = .ok (.iaload, 1) := by decide +kernel
theorem dX9_pays_13 : decode cX9_pays 13 = .ok (.ifCond .le 67, 3) := by decide +kernel
theorem dX9_pays_16 : decode cX9_pays 16 = .ok (.iload_n 2, 1) := by decide +kernel
theorem dX9_pays_17 : decode cX9_pays 17 = .ok (.bipush 7, 2) := by decide +kernel
theorem dX9_pays_19 : decode cX9_pays 19 = .ok (.ishr, 1) := by decide +kernel
theorem dX9_pays_20 : decode cX9_pays 20 = .ok (.iconst 1, 1) := by decide +kernel
theorem dX9_pays_21 : decode cX9_pays 21 = .ok (.iand, 1) := by decide +kernel
theorem dX9_pays_22 : decode cX9_pays 22 = .ok (.iconst 1, 1) := by decide +kernel
theorem dX9_pays_23 : decode cX9_pays 23 = .ok (.if_icmp .ne 7, 3) := by decide +kernel
theorem dX9_pays_26 : decode cX9_pays 26 = .ok (.iconst 1, 1) := by decide +kernel
theorem dX9_pays_27 : decode cX9_pays 27 = .ok (.goto 4, 3) := by decide +kernel
theorem dX9_pays_30 : decode cX9_pays 30 = .ok (.iconst 0, 1) := by decide +kernel
theorem dX9_pays_31 : decode cX9_pays 31 = .ok (.istore 4, 2) := by decide +kernel
theorem dX9_pays_33 : decode cX9_pays 33 = .ok (.aload_n 0, 1) := by decide +kernel
theorem dX9_pays_34 : decode cX9_pays 34 = .ok (.getfield 13, 3) := by decide +kernel
theorem dX9_pays_37 : decode cX9_pays 37 = .ok (.iload_n 3, 1) := by decide +kernel
theorem dX9_pays_38 : decode cX9_pays 38 = .ok (.iload 4, 2) := by decide +kernel
theorem dX9_pays_40 : decode cX9_pays 40 = .ok (.ifCond .ne 14, 3) := by decide +kernel
theorem dX9_pays_43 : decode cX9_pays 43 = .ok (.aload_n 0, 1) := by decide +kernel
theorem dX9_pays_44 : decode cX9_pays 44 = .ok (.getfield 13, 3) := by decide +kernel
theorem dX9_pays_47 : decode cX9_pays 47 = .ok (.iload_n 3, 1) := by decide +kernel
theorem dX9_pays_48 : decode cX9_pays 48 = .ok (.iaload, 1) := by decide +kernel
theorem dX9_pays_49 : decode cX9_pays 49 = .ok (.iconst 1, 1) := by decide +kernel
theorem dX9_pays_50 : decode cX9_pays 50 = .ok (.isub, 1) := by decide +kernel
theorem dX9_pays_51 : decode cX9_pays 51 = .ok (.goto 27, 3) := by decide +kernel
theorem dX9_pays_54 : decode cX9_pays 54 = .ok (.aload_n 0, 1) := by decide +kernel
theorem dX9_pays_55 : decode cX9_pays 55 = .ok (.getfield 13, 3) := by decide +kernel
theorem dX9_pays_58 : decode cX9_pays 58 = .ok (.iload_n 3, 1) := by decide +kernel
theorem dX9_pays_59 : decode cX9_pays 59 = .ok (.iaload, 1) := by decide +kernel
theorem dX9_pays_60 : decode cX9_pays 60 = .ok (.bipush 9, 2) := by decide +kernel
theorem dX9_pays_62 : decode cX9_pays 62 = .ok (.if_icmp .ge 14, 3) := by decide +kernel
theorem dX9_pays_65 : decode cX9_pays 65 = .ok (.aload_n 0, 1) := by decide +kernel
theorem dX9_pays_66 : decode cX9_pays 66 = .ok (.getfield 13, 3) := by decide +kernel
theorem dX9_pays_69 : decode cX9_pays 69 = .ok (.iload_n 3, 1) := by decide +kernel
theorem dX9_pays_70 : decode cX9_pays 70 = .ok (.iaload, 1) := by decide +kernel
theorem dX9_pays_71 : decode cX9_pays 71 = .ok (.iconst 1, 1) := by decide +kernel
theorem dX9_pays_72 : decode cX9_pays 72 = .ok (.iadd, 1) := by decide +kernel
theorem dX9_pays_73 : decode cX9_pays 73 = .ok (.goto 5, 3) := by decide +kernel
theorem dX9_pays_76 : decode cX9_pays 76 = .ok (.bipush 9, 2) := by decide +kernel
theorem dX9_pays_78 : decode cX9_pays 78 = .ok (.iastore, 1) := by decide +kernel
theorem dX9_pays_79 : decode cX9_pays 79 = .ok (.return_, 1) := by decide +kernel
theorem dX9_pays_80 : decode cX9_pays 80 = .ok (.iload_n 2, 1) := by decide +kernel
theorem dX9_pays_81 : decode cX9_pays 81 = .ok (.iconst 4, 1) := by decide +kernel
theorem dX9_pays_82 : decode cX9_pays 82 = .ok (.ishr, 1) := by decide +kernel
theorem dX9_pays_83 : decode cX9_pays 83 = .ok (.iconst 1, 1) := by decide +kernel
theorem dX9_pays_84 : decode cX9_pays 84 = .ok (.iand, 1) := by decide +kernel
theorem dX9_pays_85 : decode cX9_pays 85 = .ok (.iconst 1, 1) := by decide +kernel
theorem dX9_pays_86 : decode cX9_pays 86 = .ok (.if_icmp .ne 15, 3) := by decide +kernel
theorem dX9_pays_89 : decode cX9_pays 89 = .ok (.iload_n 2, 1) := by decide +kernel
theorem dX9_pays_90 : decode cX9_pays 90 = .ok (.iconst 3, 1) := by decide +kernel
theorem dX9_pays_91 : decode cX9_pays 91 = .ok (.ishr, 1) := by decide +kernel
theorem dX9_pays_92 : decode cX9_pays 92 = .ok (.iconst 1, 1) := by decide +kernel
theorem dX9_pays_93 : decode cX9_pays 93 = .ok (.iand, 1) := by decide +kernel
theorem dX9_pays_94 : decode cX9_pays 94 = .ok (.ifCond .ne 7, 3) := by decide +kernel
theorem dX9_pays_97 : decode cX9_pays 97 = .ok (.iconst 1, 1) := by decide +kernel
theorem dX9_pays_98 : decode cX9_pays 98 = .ok (.goto 4, 3) := by decide +kernel
theorem dX9_pays_101 : decode cX9_pays 101 = .ok (.iconst 0, 1) := by decide +kernel
theorem dX9_pays_102 : decode cX9_pays 102 = .ok (.istore 4, 2) := by decide +kernel
theorem dX9_pays_104 : decode cX9_pays 104 = .ok (.aload_n 0, 1) := by decide +kernel
theorem dX9_pays_105 : decode cX9_pays 105 = .ok (.getfield 13, 3) := by decide +kernel
theorem dX9_pays_108 : decode cX9_pays 108 = .ok (.iload_n 3, 1) := by decide +kernel
theorem dX9_pays_109 : decode cX9_pays 109 = .ok (.iload 4, 2) := by decide +kernel
theorem dX9_pays_111 : decode cX9_pays 111 = .ok (.ifCond .eq 7, 3) := by decide +kernel
theorem dX9_pays_114 : decode cX9_pays 114 = .ok (.iconst 0, 1) := by decide +kernel
theorem dX9_pays_115 : decode cX9_pays 115 = .ok (.goto 5, 3) := by decide +kernel
theorem dX9_pays_118 : decode cX9_pays 118 = .ok (.bipush 9, 2) := by decide +kernel
theorem dX9_pays_120 : decode cX9_pays 120 = .ok (.iastore, 1) := by decide +kernel
theorem dX9_pays_121 : decode cX9_pays 121 = .ok (.iload_n 2, 1) := by decide +kernel
theorem dX9_pays_122 : decode cX9_pays 122 = .ok (.iconst 3, 1) := by decide +kernel
theorem dX9_pays_123 : decode cX9_pays 123 = .ok (.ishr, 1) := by decide +kernel
theorem dX9_pays_124 : decode cX9_pays 124 = .ok (.iconst 1, 1) := by decide +kernel
theorem dX9_pays_125 : decode cX9_pays 125 = .ok (.iand, 1) := by decide +kernel
theorem dX9_pays_126 : decode cX9_pays 126 = .ok (.iconst 1, 1) := by decide +kernel
theorem dX9_pays_127 : decode cX9_pays 127 = .ok (.if_icmp .ne 4, 3) := by decide +kernel
theorem dX9_pays_130 : decode cX9_pays 130 = .ok (.return_, 1) := by decide +kernel
theorem dX9_pays_131 : decode cX9_pays 131 = .ok (.iinc 3 1, 3) := by decide +kernel
theorem dX9_pays_134 : decode cX9_pays 134 = .ok (.goto (-132), 3) := by decide +kernel
theorem dX9_pays_137 : decode cX9_pays 137 = .ok (.return_, 1) := by decide +kernel
set_option maxRecDepth 20000 in
theorem ggX9_workOf_X9_digitOf : GoodIn wsX9_workOf wsX9_digitOf := goodIn_r _ [7] (by decide +kernel) (by decide +kernel)
set_option maxRecDepth 20000 in
theorem gX9_workOf_X9_digitOf : GoodIn wsX9_workOf (va_wsS RX9 108 yX9_digitOf wsX9_digitOf) := goodIn_app (goodIn_of _ (by decide +kernel)) ggX9_workOf_X9_digitOf
set_option maxRecDepth 20000 in
theorem ggX9_workOf_X9_pays : GoodIn wsX9_workOf wsX9_pays := goodIn_r _ [11, 1, 12, 13, 14, 15, 16, 17, 18, 19, 20, 21, 22, 23, 24, 25, 26, 27, 28, 29, 30, 31, 32, 33, 34, 35, 36, 37, 38, 39, 40, 41, 42, 43, 44, 45, 46, 47, 48] (by decide +kernel) (by decide +kernel)
set_option maxRecDepth 20000 in
theorem gX9_workOf_X9_pays : GoodIn wsX9_workOf (wsV RX9 112 RX9 yX9_pays wsX9_pays) := goodIn_app (goodIn_of _ (by decide +kernel)) ggX9_workOf_X9_pays
theorem dX9_workOf_0 : decode cX9_workOf 0 = .ok (.iload_n 2, 1) := by decide +kernel
theorem dX9_workOf_1 : decode cX9_workOf 1 = .ok (.bipush 99, 2) := by decide +kernel
theorem dX9_workOf_3 : decode cX9_workOf 3 = .ok (.if_icmp .le 7, 3) := by decide +kernel
theorem dX9_workOf_6 : decode cX9_workOf 6 = .ok (.iconst 3, 1) := by decide +kernel
theorem dX9_workOf_7 : decode cX9_workOf 7 = .ok (.goto 14, 3) := by decide +kernel
theorem dX9_workOf_10 : decode cX9_workOf 10 = .ok (.iload_n 2, 1) := by decide +kernel
theorem dX9_workOf_11 : decode cX9_workOf 11 = .ok (.bipush 9, 2) := by decide +kernel
theorem dX9_workOf_13 : decode cX9_workOf 13 = .ok (.if_icmp .le 7, 3) := by decide +kernel
theorem dX9_workOf_16 : decode cX9_workOf 16 = .ok (.iconst 2, 1) := by decide +kernel
theorem dX9_workOf_17 : decode cX9_workOf 17 = .ok (.goto 4, 3) := by decide +kernel
theorem dX9_workOf_20 : decode cX9_workOf 20 = .ok (.iconst 1, 1) := by decide +kernel
theorem dX9_workOf_21 : decode cX9_workOf 21 = .ok (.istore 4, 2) := by decide +kernel
theorem dX9_workOf_23 : decode cX9_workOf 23 = .ok (.iconst 0, 1) := by decide +kernel
theorem dX9_workOf_24 : decode cX9_workOf 24 = .ok (.istore 5, 2) := by decide +kernel
theorem dX9_workOf_26 : decode cX9_workOf 26 = .ok (.iload 5, 2) := by decide +kernel
theorem dX9_workOf_28 : decode cX9_workOf 28 = .ok (.iconst 3, 1) := by decide +kernel
theorem dX9_workOf_29 : decode cX9_workOf 29 = .ok (.if_icmp .ge 22, 3) := by decide +kernel
theorem dX9_workOf_32 : decode cX9_workOf 32 = .ok (.aload_n 0, 1) := by decide +kernel
theorem dX9_workOf_33 : decode cX9_workOf 33 = .ok (.getfield 13, 3) := by decide +kernel
theorem dX9_workOf_36 : decode cX9_workOf 36 = .ok (.iload 5, 2) := by decide +kernel
theorem dX9_workOf_38 : decode cX9_workOf 38 = .ok (.iload_n 1, 1) := by decide +kernel
theorem dX9_workOf_39 : decode cX9_workOf 39 = .ok (.iload 5, 2) := by decide +kernel
theorem dX9_workOf_41 : decode cX9_workOf 41 = .ok (.invokestatic 108, 3) := by decide +kernel
theorem dX9_workOf_44 : decode cX9_workOf 44 = .ok (.iastore, 1) := by decide +kernel
theorem dX9_workOf_45 : decode cX9_workOf 45 = .ok (.iinc 5 1, 3) := by decide +kernel
theorem dX9_workOf_48 : decode cX9_workOf 48 = .ok (.goto (-22), 3) := by decide +kernel
theorem dX9_workOf_51 : decode cX9_workOf 51 = .ok (.iconst 0, 1) := by decide +kernel
theorem dX9_workOf_52 : decode cX9_workOf 52 = .ok (.istore 5, 2) := by decide +kernel
theorem dX9_workOf_54 : decode cX9_workOf 54 = .ok (.iload 5, 2) := by decide +kernel
theorem dX9_workOf_56 : decode cX9_workOf 56 = .ok (.iconst 3, 1) := by decide +kernel
theorem dX9_workOf_57 : decode cX9_workOf 57 = .ok (.if_icmp .ge 234, 3) := by decide +kernel
theorem dX9_workOf_60 : decode cX9_workOf 60 = .ok (.aload_n 0, 1) := by decide +kernel
theorem dX9_workOf_61 : decode cX9_workOf 61 = .ok (.getfield 13, 3) := by decide +kernel
theorem dX9_workOf_64 : decode cX9_workOf 64 = .ok (.iload 5, 2) := by decide +kernel
theorem dX9_workOf_66 : decode cX9_workOf 66 = .ok (.iaload, 1) := by decide +kernel
theorem dX9_workOf_67 : decode cX9_workOf 67 = .ok (.istore 6, 2) := by decide +kernel
theorem dX9_workOf_69 : decode cX9_workOf 69 = .ok (.iload_n 2, 1) := by decide +kernel
theorem dX9_workOf_70 : decode cX9_workOf 70 = .ok (.iload 5, 2) := by decide +kernel
theorem dX9_workOf_72 : decode cX9_workOf 72 = .ok (.invokestatic 108, 3) := by decide +kernel
theorem dX9_workOf_75 : decode cX9_workOf 75 = .ok (.istore 7, 2) := by decide +kernel
theorem dX9_workOf_77 : decode cX9_workOf 77 = .ok (.iload_n 3, 1) := by decide +kernel
theorem dX9_workOf_78 : decode cX9_workOf 78 = .ok (.bipush 6, 2) := by decide +kernel
theorem dX9_workOf_80 : decode cX9_workOf 80 = .ok (.ishr, 1) := by decide +kernel
theorem dX9_workOf_81 : decode cX9_workOf 81 = .ok (.iconst 1, 1) := by decide +kernel
theorem dX9_workOf_82 : decode cX9_workOf 82 = .ok (.iand, 1) := by decide +kernel
theorem dX9_workOf_83 : decode cX9_workOf 83 = .ok (.iconst 1, 1) := by decide +kernel
theorem dX9_workOf_84 : decode cX9_workOf 84 = .ok (.if_icmp .ne 29, 3) := by decide +kernel
theorem dX9_workOf_87 : decode cX9_workOf 87 = .ok (.iload 5, 2) := by decide +kernel
theorem dX9_workOf_89 : decode cX9_workOf 89 = .ok (.iload 4, 2) := by decide +kernel
theorem dX9_workOf_91 : decode cX9_workOf 91 = .ok (.if_icmp .lt 22, 3) := by decide +kernel
theorem dX9_workOf_94 : decode cX9_workOf 94 = .ok (.aload_n 0, 1) := by decide +kernel
theorem dX9_workOf_95 : decode cX9_workOf 95 = .ok (.getfield 19, 3) := by decide +kernel
theorem dX9_workOf_98 : decode cX9_workOf 98 = .ok (.iload 5, 2) := by decide +kernel
theorem dX9_workOf_100 : decode cX9_workOf 100 = .ok (.iconst 0, 1) := by decide +kernel
theorem dX9_workOf_101 : decode cX9_workOf 101 = .ok (.iastore, 1) := by decide +kernel
theorem dX9_workOf_102 : decode cX9_workOf 102 = .ok (.aload_n 0, 1) := by decide +kernel
theorem dX9_workOf_103 : decode cX9_workOf 103 = .ok (.getfield 16, 3) := by decide +kernel
theorem dX9_workOf_106 : decode cX9_workOf 106 = .ok (.iload 5, 2) := by decide +kernel
theorem dX9_workOf_108 : decode cX9_workOf 108 = .ok (.iconst 0, 1) := by decide +kernel
theorem dX9_workOf_109 : decode cX9_workOf 109 = .ok (.iastore, 1) := by decide +kernel
theorem dX9_workOf_110 : decode cX9_workOf 110 = .ok (.goto 175, 3) := by decide +kernel
theorem dX9_workOf_113 : decode cX9_workOf 113 = .ok (.iload_n 3, 1) := by decide +kernel
theorem dX9_workOf_114 : decode cX9_workOf 114 = .ok (.iconst 5, 1) := by decide +kernel
theorem dX9_workOf_115 : decode cX9_workOf 115 = .ok (.ishr, 1) := by decide +kernel
theorem dX9_workOf_116 : decode cX9_workOf 116 = .ok (.iconst 1, 1) := by decide +kernel
theorem dX9_workOf_117 : decode cX9_workOf 117 = .ok (.iand, 1) := by decide +kernel
theorem dX9_workOf_118 : decode cX9_workOf 118 = .ok (.iconst 1, 1) := by decide +kernel
theorem dX9_workOf_119 : decode cX9_workOf 119 = .ok (.if_icmp .ne 27, 3) := by decide +kernel
theorem dX9_workOf_122 : decode cX9_workOf 122 = .ok (.iload 7, 2) := by decide +kernel
theorem dX9_workOf_124 : decode cX9_workOf 124 = .ok (.ifCond .ne 22, 3) := by decide +kernel
theorem dX9_workOf_127 : decode cX9_workOf 127 = .ok (.aload_n 0, 1) := by decide +kernel
theorem dX9_workOf_128 : decode cX9_workOf 128 = .ok (.getfield 19, 3) := by decide +kernel
theorem dX9_workOf_131 : decode cX9_workOf 131 = .ok (.iload 5, 2) := by decide +kernel
theorem dX9_workOf_133 : decode cX9_workOf 133 = .ok (.iconst 1, 1) := by decide +kernel
theorem dX9_workOf_134 : decode cX9_workOf 134 = .ok (.iastore, 1) := by decide +kernel
theorem dX9_workOf_135 : decode cX9_workOf 135 = .ok (.aload_n 0, 1) := by decide +kernel
theorem dX9_workOf_136 : decode cX9_workOf 136 = .ok (.getfield 16, 3) := by decide +kernel
theorem dX9_workOf_139 : decode cX9_workOf 139 = .ok (.iload 5, 2) := by decide +kernel
theorem dX9_workOf_141 : decode cX9_workOf 141 = .ok (.iconst 0, 1) := by decide +kernel
theorem dX9_workOf_142 : decode cX9_workOf 142 = .ok (.iastore, 1) := by decide +kernel
theorem dX9_workOf_143 : decode cX9_workOf 143 = .ok (.goto 142, 3) := by decide +kernel
theorem dX9_workOf_146 : decode cX9_workOf 146 = .ok (.iload_n 3, 1) := by decide +kernel
theorem dX9_workOf_147 : decode cX9_workOf 147 = .ok (.iconst 2, 1) := by decide +kernel
theorem dX9_workOf_148 : decode cX9_workOf 148 = .ok (.ishr, 1) := by decide +kernel
theorem dX9_workOf_149 : decode cX9_workOf 149 = .ok (.iconst 1, 1) := by decide +kernel
theorem dX9_workOf_150 : decode cX9_workOf 150 = .ok (.iand, 1) := by decide +kernel
theorem dX9_workOf_151 : decode cX9_workOf 151 = .ok (.iconst 1, 1) := by decide +kernel
theorem dX9_workOf_152 : decode cX9_workOf 152 = .ok (.if_icmp .ne 33, 3) := by decide +kernel
theorem dX9_workOf_155 : decode cX9_workOf 155 = .ok (.iload 6, 2) := by decide +kernel
theorem dX9_workOf_157 : decode cX9_workOf 157 = .ok (.ifCond .ne 28, 3) := by decide +kernel
theorem dX9_workOf_160 : decode cX9_workOf 160 = .ok (.iload 7, 2) := by decide +kernel
theorem dX9_workOf_162 : decode cX9_workOf 162 = .ok (.ifCond .le 23, 3) := by decide +kernel
theorem dX9_workOf_165 : decode cX9_workOf 165 = .ok (.aload_n 0, 1) := by decide +kernel
theorem dX9_workOf_166 : decode cX9_workOf 166 = .ok (.getfield 19, 3) := by decide +kernel
theorem dX9_workOf_169 : decode cX9_workOf 169 = .ok (.iload 5, 2) := by decide +kernel
theorem dX9_workOf_171 : decode cX9_workOf 171 = .ok (.iconst 2, 1) := by decide +kernel
theorem dX9_workOf_172 : decode cX9_workOf 172 = .ok (.iastore, 1) := by decide +kernel
theorem dX9_workOf_173 : decode cX9_workOf 173 = .ok (.aload_n 0, 1) := by decide +kernel
theorem dX9_workOf_174 : decode cX9_workOf 174 = .ok (.getfield 16, 3) := by decide +kernel
theorem dX9_workOf_177 : decode cX9_workOf 177 = .ok (.iload 5, 2) := by decide +kernel
theorem dX9_workOf_179 : decode cX9_workOf 179 = .ok (.iload 7, 2) := by decide +kernel
theorem dX9_workOf_181 : decode cX9_workOf 181 = .ok (.iastore, 1) := by decide +kernel
theorem dX9_workOf_182 : decode cX9_workOf 182 = .ok (.goto 103, 3) := by decide +kernel
theorem dX9_workOf_185 : decode cX9_workOf 185 = .ok (.iload 6, 2) := by decide +kernel
theorem dX9_workOf_187 : decode cX9_workOf 187 = .ok (.iload 7, 2) := by decide +kernel
theorem dX9_workOf_189 : decode cX9_workOf 189 = .ok (.if_icmp .lt 26, 3) := by decide +kernel
theorem dX9_workOf_192 : decode cX9_workOf 192 = .ok (.aload_n 0, 1) := by decide +kernel
theorem dX9_workOf_193 : decode cX9_workOf 193 = .ok (.getfield 19, 3) := by decide +kernel
theorem dX9_workOf_196 : decode cX9_workOf 196 = .ok (.iload 5, 2) := by decide +kernel
theorem dX9_workOf_198 : decode cX9_workOf 198 = .ok (.iconst 3, 1) := by decide +kernel
theorem dX9_workOf_199 : decode cX9_workOf 199 = .ok (.iastore, 1) := by decide +kernel
theorem dX9_workOf_200 : decode cX9_workOf 200 = .ok (.aload_n 0, 1) := by decide +kernel
theorem dX9_workOf_201 : decode cX9_workOf 201 = .ok (.getfield 16, 3) := by decide +kernel
theorem dX9_workOf_204 : decode cX9_workOf 204 = .ok (.iload 5, 2) := by decide +kernel
theorem dX9_workOf_206 : decode cX9_workOf 206 = .ok (.iload 6, 2) := by decide +kernel
theorem dX9_workOf_208 : decode cX9_workOf 208 = .ok (.iload 7, 2) := by decide +kernel
theorem dX9_workOf_210 : decode cX9_workOf 210 = .ok (.isub, 1) := by decide +kernel
theorem dX9_workOf_211 : decode cX9_workOf 211 = .ok (.iastore, 1) := by decide +kernel
theorem dX9_workOf_212 : decode cX9_workOf 212 = .ok (.goto 73, 3) := by decide +kernel
theorem dX9_workOf_215 : decode cX9_workOf 215 = .ok (.iload_n 3, 1) := by decide +kernel
theorem dX9_workOf_216 : decode cX9_workOf 216 = .ok (.iconst 1, 1) := by decide +kernel
theorem dX9_workOf_217 : decode cX9_workOf 217 = .ok (.iand, 1) := by decide +kernel
theorem dX9_workOf_218 : decode cX9_workOf 218 = .ok (.iconst 1, 1) := by decide +kernel
theorem dX9_workOf_219 : decode cX9_workOf 219 = .ok (.if_icmp .ne 26, 3) := by decide +kernel
theorem dX9_workOf_222 : decode cX9_workOf 222 = .ok (.aload_n 0, 1) := by decide +kernel
theorem dX9_workOf_223 : decode cX9_workOf 223 = .ok (.getfield 19, 3) := by decide +kernel
theorem dX9_workOf_226 : decode cX9_workOf 226 = .ok (.iload 5, 2) := by decide +kernel
theorem dX9_workOf_228 : decode cX9_workOf 228 = .ok (.iconst 4, 1) := by decide +kernel
theorem dX9_workOf_229 : decode cX9_workOf 229 = .ok (.iastore, 1) := by decide +kernel
theorem dX9_workOf_230 : decode cX9_workOf 230 = .ok (.aload_n 0, 1) := by decide +kernel
theorem dX9_workOf_231 : decode cX9_workOf 231 = .ok (.getfield 16, 3) := by decide +kernel
theorem dX9_workOf_234 : decode cX9_workOf 234 = .ok (.iload 5, 2) := by decide +kernel
theorem dX9_workOf_236 : decode cX9_workOf 236 = .ok (.iload 7, 2) := by decide +kernel
theorem dX9_workOf_238 : decode cX9_workOf 238 = .ok (.iload 6, 2) := by decide +kernel
theorem dX9_workOf_240 : decode cX9_workOf 240 = .ok (.isub, 1) := by decide +kernel
theorem dX9_workOf_241 : decode cX9_workOf 241 = .ok (.iastore, 1) := by decide +kernel
theorem dX9_workOf_242 : decode cX9_workOf 242 = .ok (.goto 43, 3) := by decide +kernel
theorem dX9_workOf_245 : decode cX9_workOf 245 = .ok (.aload_n 0, 1) := by decide +kernel
theorem dX9_workOf_246 : decode cX9_workOf 246 = .ok (.getfield 19, 3) := by decide +kernel
theorem dX9_workOf_249 : decode cX9_workOf 249 = .ok (.iload 5, 2) := by decide +kernel
theorem dX9_workOf_251 : decode cX9_workOf 251 = .ok (.iconst 5, 1) := by decide +kernel
theorem dX9_workOf_252 : decode cX9_workOf 252 = .ok (.iastore, 1) := by decide +kernel
theorem dX9_workOf_253 : decode cX9_workOf 253 = .ok (.aload_n 0, 1) := by decide +kernel
theorem dX9_workOf_254 : decode cX9_workOf 254 = .ok (.getfield 16, 3) := by decide +kernel
theorem dX9_workOf_257 : decode cX9_workOf 257 = .ok (.iload 5, 2) := by decide +kernel
theorem dX9_workOf_259 : decode cX9_workOf 259 = .ok (.bipush 10, 2) := by decide +kernel
theorem dX9_workOf_261 : decode cX9_workOf 261 = .ok (.iload 6, 2) := by decide +kernel
theorem dX9_workOf_263 : decode cX9_workOf 263 = .ok (.iadd, 1) := by decide +kernel
theorem dX9_workOf_264 : decode cX9_workOf 264 = .ok (.iload 7, 2) := by decide +kernel
theorem dX9_workOf_266 : decode cX9_workOf 266 = .ok (.isub, 1) := by decide +kernel
theorem dX9_workOf_267 : decode cX9_workOf 267 = .ok (.iastore, 1) := by decide +kernel
theorem dX9_workOf_268 : decode cX9_workOf 268 = .ok (.iload_n 3, 1) := by decide +kernel
theorem dX9_workOf_269 : decode cX9_workOf 269 = .ok (.iconst 1, 1) := by decide +kernel
theorem dX9_workOf_270 : decode cX9_workOf 270 = .ok (.ishr, 1) := by decide +kernel
theorem dX9_workOf_271 : decode cX9_workOf 271 = .ok (.iconst 1, 1) := by decide +kernel
theorem dX9_workOf_272 : decode cX9_workOf 272 = .ok (.iand, 1) := by decide +kernel
theorem dX9_workOf_273 : decode cX9_workOf 273 = .ok (.ifCond .ne 12, 3) := by decide +kernel
theorem dX9_workOf_276 : decode cX9_workOf 276 = .ok (.aload_n 0, 1) := by decide +kernel
theorem dX9_workOf_277 : decode cX9_workOf 277 = .ok (.iload 5, 2) := by decide +kernel
theorem dX9_workOf_279 : decode cX9_workOf 279 = .ok (.iconst 1, 1) := by decide +kernel
theorem dX9_workOf_280 : decode cX9_workOf 280 = .ok (.iadd, 1) := by decide +kernel
theorem dX9_workOf_281 : decode cX9_workOf 281 = .ok (.iload_n 3, 1) := by decide +kernel
theorem dX9_workOf_282 : decode cX9_workOf 282 = .ok (.invokevirtual 112, 3) := by decide +kernel
theorem dX9_workOf_285 : decode cX9_workOf 285 = .ok (.iinc 5 1, 3) := by decide +kernel
theorem dX9_workOf_288 : decode cX9_workOf 288 = .ok (.goto (-234), 3) := by decide +kernel
theorem dX9_workOf_291 : decode cX9_workOf 291 = .ok (.bipush 100, 2) := by decide +kernel
theorem dX9_workOf_293 : decode cX9_workOf 293 = .ok (.aload_n 0, 1) := by decide +kernel
theorem dX9_workOf_294 : decode cX9_workOf 294 = .ok (.getfield 16, 3) := by decide +kernel
theorem dX9_workOf_297 : decode cX9_workOf 297 = .ok (.iconst 2, 1) := by decide +kernel
theorem dX9_workOf_298 : decode cX9_workOf 298 = .ok (.iaload, 1) := by decide +kernel
theorem dX9_workOf_299 : decode cX9_workOf 299 = .ok (.imul, 1) := by decide +kernel
theorem dX9_workOf_300 : decode cX9_workOf 300 = .ok (.bipush 10, 2) := by decide +kernel
theorem dX9_workOf_302 : decode cX9_workOf 302 = .ok (.aload_n 0, 1) := by decide +kernel
theorem dX9_workOf_303 : decode cX9_workOf 303 = .ok (.getfield 16, 3) := by decide +kernel
theorem dX9_workOf_306 : decode cX9_workOf 306 = .ok (.iconst 1, 1) := by decide +kernel
theorem dX9_workOf_307 : decode cX9_workOf 307 = .ok (.iaload, 1) := by decide +kernel
theorem dX9_workOf_308 : decode cX9_workOf 308 = .ok (.imul, 1) := by decide +kernel
theorem dX9_workOf_309 : decode cX9_workOf 309 = .ok (.iadd, 1) := by decide +kernel
theorem dX9_workOf_310 : decode cX9_workOf 310 = .ok (.aload_n 0, 1) := by decide +kernel
theorem dX9_workOf_311 : decode cX9_workOf 311 = .ok (.getfield 16, 3) := by decide +kernel
theorem dX9_workOf_314 : decode cX9_workOf 314 = .ok (.iconst 0, 1) := by decide +kernel
theorem dX9_workOf_315 : decode cX9_workOf 315 = .ok (.iaload, 1) := by decide +kernel
theorem dX9_workOf_316 : decode cX9_workOf 316 = .ok (.iadd, 1) := by decide +kernel
theorem dX9_workOf_317 : decode cX9_workOf 317 = .ok (.ireturn, 1) := by decide +kernel
set_option maxRecDepth 20000 in
theorem ggX9_work_X9_isTask : GoodIn wsX9_work wsX9_isTask := goodIn_r _ [4, 5, 6, 7, 3, 8] (by decide +kernel) (by decide +kernel)
set_option maxRecDepth 20000 in
theorem gX9_work_X9_isTask : GoodIn wsX9_work (va_wsS RX9 116 yX9_isTask wsX9_isTask) := goodIn_app (goodIn_of _ (by decide +kernel)) ggX9_work_X9_isTask
set_option maxRecDepth 20000 in
theorem ggX9_work_X9_isSet : GoodIn wsX9_work wsX9_isSet := goodIn_r _ [11, 12, 6, 7, 3, 8] (by decide +kernel) (by decide +kernel)
set_option maxRecDepth 20000 in
theorem gX9_work_X9_isSet : GoodIn wsX9_work (va_wsS RX9 120 yX9_isSet wsX9_isSet) := goodIn_app (goodIn_of _ (by decide +kernel)) ggX9_work_X9_isSet
set_option maxRecDepth 20000 in
theorem ggX9_work_X9_workOf : GoodIn wsX9_work wsX9_workOf := goodIn_r _ [16, 17, 18, 19, 20, 21, 3, 22, 23, 24, 25, 26, 27, 28, 29, 30, 31, 32, 33, 34, 35, 36, 37, 38, 39, 40, 41, 42, 43, 44, 45, 46, 47, 48, 49, 50, 51, 52, 53, 54, 55, 56, 57, 58, 59, 60, 61, 62, 63] (by decide +kernel) (by decide +kernel)
set_option maxRecDepth 20000 in
theorem gX9_work_X9_workOf : GoodIn wsX9_work (wsV RX9 124 RX9 yX9_workOf wsX9_workOf) := goodIn_app (goodIn_of _ (by decide +kernel)) ggX9_work_X9_workOf
theorem dX9_work_0 : decode cX9_work 0 = .ok (.iload_n 1, 1) := by decide +kernel
theorem dX9_work_1 : decode cX9_work 1 = .ok (.iload_n 2, 1) := by decide +kernel
theorem dX9_work_2 : decode cX9_work 2 = .ok (.invokestatic 116, 3) := by decide +kernel
theorem dX9_work_5 : decode cX9_work 5 = .ok (.ifCond .eq 20, 3) := by decide +kernel
theorem dX9_work_8 : decode cX9_work 8 = .ok (.iload_n 3, 1) := by decide +kernel
theorem dX9_work_9 : decode cX9_work 9 = .ok (.invokestatic 120, 3) := by decide +kernel
theorem dX9_work_12 : decode cX9_work 12 = .ok (.ifCond .eq 13, 3) := by decide +kernel
theorem dX9_work_15 : decode cX9_work 15 = .ok (.aload_n 0, 1) := by decide +kernel
theorem dX9_work_16 : decode cX9_work 16 = .ok (.iload_n 1, 1) := by decide +kernel
theorem dX9_work_17 : decode cX9_work 17 = .ok (.iload_n 2, 1) := by decide +kernel
theorem dX9_work_18 : decode cX9_work 18 = .ok (.iload_n 3, 1) := by decide +kernel
theorem dX9_work_19 : decode cX9_work 19 = .ok (.invokevirtual 124, 3) := by decide +kernel
theorem dX9_work_22 : decode cX9_work 22 = .ok (.goto 4, 3) := by decide +kernel
theorem dX9_work_25 : decode cX9_work 25 = .ok (.iconst (-1), 1) := by decide +kernel
theorem dX9_work_26 : decode cX9_work 26 = .ok (.ireturn, 1) := by decide +kernel
set_option maxRecDepth 20000 in
theorem ggX9_row_X9_isTask : GoodIn wsX9_row wsX9_isTask := goodIn_r _ [7, 8, 9, 10, 6, 11] (by decide +kernel) (by decide +kernel)
set_option maxRecDepth 20000 in
theorem gX9_row_X9_isTask : GoodIn wsX9_row (va_wsS RX9 116 yX9_isTask wsX9_isTask) := goodIn_app (goodIn_of _ (by decide +kernel)) ggX9_row_X9_isTask
set_option maxRecDepth 20000 in
theorem ggX9_row_X9_isSet : GoodIn wsX9_row wsX9_isSet := goodIn_r _ [14, 15, 9, 10, 6, 11] (by decide +kernel) (by decide +kernel)
set_option maxRecDepth 20000 in
theorem gX9_row_X9_isSet : GoodIn wsX9_row (va_wsS RX9 120 yX9_isSet wsX9_isSet) := goodIn_app (goodIn_of _ (by decide +kernel)) ggX9_row_X9_isSet
set_option maxRecDepth 20000 in
theorem ggX9_row_X9_in : GoodIn wsX9_row wsX9_in := goodIn_r _ [11] (by decide +kernel) (by decide +kernel)
set_option maxRecDepth 20000 in
theorem gX9_row_X9_in : GoodIn wsX9_row (va_wsS RX9 102 yX9_in wsX9_in) := goodIn_app (goodIn_of _ (by decide +kernel)) ggX9_row_X9_in
set_option maxRecDepth 20000 in
theorem ggX9_row_X9_workOf : GoodIn wsX9_row wsX9_workOf := goodIn_r _ [19, 20, 2, 3, 21, 22, 6, 23, 24, 25, 26, 27, 28, 29, 30, 31, 32, 33, 34, 35, 36, 37, 38, 39, 40, 41, 42, 43, 44, 45, 46, 47, 48, 49, 50, 51, 52, 53, 54, 55, 56, 57, 58, 59, 60, 61, 62, 63, 64] (by decide +kernel) (by decide +kernel)
set_option maxRecDepth 20000 in
theorem gX9_row_X9_workOf : GoodIn wsX9_row (wsV RX9 124 RX9 yX9_workOf wsX9_workOf) := goodIn_app (goodIn_of _ (by decide +kernel)) ggX9_row_X9_workOf
theorem dX9_row_0 : decode cX9_row 0 = .ok (.iload_n 1, 1) := by decide +kernel
theorem dX9_row_1 : decode cX9_row 1 = .ok (.iload_n 2, 1) := by decide +kernel
theorem dX9_row_2 : decode cX9_row 2 = .ok (.invokestatic 116, 3) := by decide +kernel
theorem dX9_row_5 : decode cX9_row 5 = .ok (.ifCond .eq 23, 3) := by decide +kernel
theorem dX9_row_8 : decode cX9_row 8 = .ok (.iload_n 3, 1) := by decide +kernel
theorem dX9_row_9 : decode cX9_row 9 = .ok (.invokestatic 120, 3) := by decide +kernel
theorem dX9_row_12 : decode cX9_row 12 = .ok (.ifCond .eq 16, 3) := by decide +kernel
theorem dX9_row_15 : decode cX9_row 15 = .ok (.iload 4, 2) := by decide +kernel
theorem dX9_row_17 : decode cX9_row 17 = .ok (.i2l, 1) := by decide +kernel
theorem dX9_row_18 : decode cX9_row 18 = .ok (.lconst 0, 1) := by decide +kernel
theorem dX9_row_19 : decode cX9_row 19 = .ok (.ldc2_w 128, 3) := by decide +kernel
theorem dX9_row_22 : decode cX9_row 22 = .ok (.invokestatic 102, 3) := by decide +kernel
theorem dX9_row_25 : decode cX9_row 25 = .ok (.ifCond .ne 5, 3) := by decide +kernel
theorem dX9_row_28 : decode cX9_row 28 = .ok (.iconst (-1), 1) := by decide +kernel
theorem dX9_row_29 : decode cX9_row 29 = .ok (.ireturn, 1) := by decide +kernel
theorem dX9_row_30 : decode cX9_row 30 = .ok (.aload_n 0, 1) := by decide +kernel
theorem dX9_row_31 : decode cX9_row 31 = .ok (.iload_n 1, 1) := by decide +kernel
theorem dX9_row_32 : decode cX9_row 32 = .ok (.iload_n 2, 1) := by decide +kernel
theorem dX9_row_33 : decode cX9_row 33 = .ok (.iload_n 3, 1) := by decide +kernel
theorem dX9_row_34 : decode cX9_row 34 = .ok (.invokevirtual 124, 3) := by decide +kernel
theorem dX9_row_37 : decode cX9_row 37 = .ok (.istore 5, 2) := by decide +kernel
theorem dX9_row_39 : decode cX9_row 39 = .ok (.iload 5, 2) := by decide +kernel
theorem dX9_row_41 : decode cX9_row 41 = .ok (.ifCond .ge 7, 3) := by decide +kernel
theorem dX9_row_44 : decode cX9_row 44 = .ok (.iconst (-1), 1) := by decide +kernel
theorem dX9_row_45 : decode cX9_row 45 = .ok (.goto 21, 3) := by decide +kernel
theorem dX9_row_48 : decode cX9_row 48 = .ok (.bipush 10, 2) := by decide +kernel
theorem dX9_row_50 : decode cX9_row 50 = .ok (.aload_n 0, 1) := by decide +kernel
theorem dX9_row_51 : decode cX9_row 51 = .ok (.getfield 19, 3) := by decide +kernel
theorem dX9_row_54 : decode cX9_row 54 = .ok (.iload 4, 2) := by decide +kernel
theorem dX9_row_56 : decode cX9_row 56 = .ok (.iaload, 1) := by decide +kernel
theorem dX9_row_57 : decode cX9_row 57 = .ok (.imul, 1) := by decide +kernel
theorem dX9_row_58 : decode cX9_row 58 = .ok (.aload_n 0, 1) := by decide +kernel
theorem dX9_row_59 : decode cX9_row 59 = .ok (.getfield 16, 3) := by decide +kernel
theorem dX9_row_62 : decode cX9_row 62 = .ok (.iload 4, 2) := by decide +kernel
theorem dX9_row_64 : decode cX9_row 64 = .ok (.iaload, 1) := by decide +kernel
theorem dX9_row_65 : decode cX9_row 65 = .ok (.iadd, 1) := by decide +kernel
theorem dX9_row_66 : decode cX9_row 66 = .ok (.ireturn, 1) := by decide +kernel
set_option maxRecDepth 20000 in
theorem ggX9_could_X9_isTask : GoodIn wsX9_could wsX9_isTask := goodIn_r _ [6, 1, 7, 8, 5, 9] (by decide +kernel) (by decide +kernel)
set_option maxRecDepth 20000 in
theorem gX9_could_X9_isTask : GoodIn wsX9_could (va_wsS RX9 116 yX9_isTask wsX9_isTask) := goodIn_app (goodIn_of _ (by decide +kernel)) ggX9_could_X9_isTask
set_option maxRecDepth 20000 in
theorem ggX9_could_X9_in : GoodIn wsX9_could wsX9_in := goodIn_r _ [9] (by decide +kernel) (by decide +kernel)
set_option maxRecDepth 20000 in
theorem gX9_could_X9_in : GoodIn wsX9_could (va_wsS RX9 102 yX9_in wsX9_in) := goodIn_app (goodIn_of _ (by decide +kernel)) ggX9_could_X9_in
set_option maxRecDepth 20000 in
theorem ggX9_could_X9_workOf : GoodIn wsX9_could wsX9_workOf := goodIn_r _ [13, 14, 15, 16, 17, 18, 5, 19, 20, 21, 22, 23, 24, 25, 26, 27, 28, 29, 30, 31, 32, 33, 34, 35, 36, 37, 38, 39, 40, 41, 42, 43, 44, 45, 46, 47, 48, 49, 50, 51, 52, 53, 54, 55, 56, 57, 58, 59, 60] (by decide +kernel) (by decide +kernel)
set_option maxRecDepth 20000 in
theorem gX9_could_X9_workOf : GoodIn wsX9_could (wsV RX9 124 RX9 yX9_workOf wsX9_workOf) := goodIn_app (goodIn_of _ (by decide +kernel)) ggX9_could_X9_workOf
theorem dX9_could_0 : decode cX9_could 0 = .ok (.iload_n 1, 1) := by decide +kernel
theorem dX9_could_1 : decode cX9_could 1 = .ok (.iload_n 2, 1) := by decide +kernel
theorem dX9_could_2 : decode cX9_could 2 = .ok (.invokestatic 116, 3) := by decide +kernel
theorem dX9_could_5 : decode cX9_could 5 = .ok (.ifCond .eq 15, 3) := by decide +kernel
theorem dX9_could_8 : decode cX9_could 8 = .ok (.iload_n 3, 1) := by decide +kernel
theorem dX9_could_9 : decode cX9_could 9 = .ok (.i2l, 1) := by decide +kernel
theorem dX9_could_10 : decode cX9_could 10 = .ok (.lconst 0, 1) := by decide +kernel
theorem dX9_could_11 : decode cX9_could 11 = .ok (.ldc2_w 106, 3) := by decide +kernel
theorem dX9_could_14 : decode cX9_could 14 = .ok (.invokestatic 102, 3) := by decide +kernel
theorem dX9_could_17 : decode cX9_could 17 = .ok (.ifCond .ne 5, 3) := by decide +kernel
theorem dX9_could_20 : decode cX9_could 20 = .ok (.iconst (-1), 1) := by decide +kernel
theorem dX9_could_21 : decode cX9_could 21 = .ok (.ireturn, 1) := by decide +kernel
theorem dX9_could_22 : decode cX9_could 22 = .ok (.iconst 0, 1) := by decide +kernel
theorem dX9_could_23 : decode cX9_could 23 = .ok (.istore 4, 2) := by decide +kernel
theorem dX9_could_25 : decode cX9_could 25 = .ok (.iconst 0, 1) := by decide +kernel
theorem dX9_could_26 : decode cX9_could 26 = .ok (.istore 5, 2) := by decide +kernel
theorem dX9_could_28 : decode cX9_could 28 = .ok (.iload 5, 2) := by decide +kernel
theorem dX9_could_30 : decode cX9_could 30 = .ok (.bipush 93, 2) := by decide +kernel
theorem dX9_could_32 : decode cX9_could 32 = .ok (.if_icmp .ge 36, 3) := by decide +kernel
theorem dX9_could_35 : decode cX9_could 35 = .ok (.iload 4, 2) := by decide +kernel
theorem dX9_could_37 : decode cX9_could 37 = .ok (.aload_n 0, 1) := by decide +kernel
theorem dX9_could_38 : decode cX9_could 38 = .ok (.iload_n 1, 1) := by decide +kernel
theorem dX9_could_39 : decode cX9_could 39 = .ok (.iload_n 2, 1) := by decide +kernel
theorem dX9_could_40 : decode cX9_could 40 = .ok (.aload_n 0, 1) := by decide +kernel
theorem dX9_could_41 : decode cX9_could 41 = .ok (.getfield 7, 3) := by decide +kernel
theorem dX9_could_44 : decode cX9_could 44 = .ok (.iload 5, 2) := by decide +kernel
theorem dX9_could_46 : decode cX9_could 46 = .ok (.iaload, 1) := by decide +kernel
theorem dX9_could_47 : decode cX9_could 47 = .ok (.invokevirtual 124, 3) := by decide +kernel
theorem dX9_could_50 : decode cX9_could 50 = .ok (.iload_n 3, 1) := by decide +kernel
theorem dX9_could_51 : decode cX9_could 51 = .ok (.if_icmp .ne 7, 3) := by decide +kernel
theorem dX9_could_54 : decode cX9_could 54 = .ok (.iconst 1, 1) := by decide +kernel
theorem dX9_could_55 : decode cX9_could 55 = .ok (.goto 4, 3) := by decide +kernel
theorem dX9_could_58 : decode cX9_could 58 = .ok (.iconst 0, 1) := by decide +kernel
theorem dX9_could_59 : decode cX9_could 59 = .ok (.iadd, 1) := by decide +kernel
theorem dX9_could_60 : decode cX9_could 60 = .ok (.istore 4, 2) := by decide +kernel
theorem dX9_could_62 : decode cX9_could 62 = .ok (.iinc 5 1, 3) := by decide +kernel
theorem dX9_could_65 : decode cX9_could 65 = .ok (.goto (-37), 3) := by decide +kernel
theorem dX9_could_68 : decode cX9_could 68 = .ok (.iload 4, 2) := by decide +kernel
theorem dX9_could_70 : decode cX9_could 70 = .ok (.ireturn, 1) := by decide +kernel
set_option maxRecDepth 20000 in
theorem ggX9_least_X9_isTask : GoodIn wsX9_least wsX9_isTask := goodIn_r _ [6, 1, 7, 8, 5, 9] (by decide +kernel) (by decide +kernel)
set_option maxRecDepth 20000 in
theorem gX9_least_X9_isTask : GoodIn wsX9_least (va_wsS RX9 116 yX9_isTask wsX9_isTask) := goodIn_app (goodIn_of _ (by decide +kernel)) ggX9_least_X9_isTask
set_option maxRecDepth 20000 in
theorem ggX9_least_X9_in : GoodIn wsX9_least wsX9_in := goodIn_r _ [9] (by decide +kernel) (by decide +kernel)
set_option maxRecDepth 20000 in
theorem gX9_least_X9_in : GoodIn wsX9_least (va_wsS RX9 102 yX9_in wsX9_in) := goodIn_app (goodIn_of _ (by decide +kernel)) ggX9_least_X9_in
set_option maxRecDepth 20000 in
theorem ggX9_least_X9_workOf : GoodIn wsX9_least wsX9_workOf := goodIn_r _ [13, 14, 15, 16, 17, 18, 5, 19, 20, 21, 22, 23, 24, 25, 26, 27, 28, 29, 30, 31, 32, 33, 34, 35, 36, 37, 38, 39, 40, 41, 42, 43, 44, 45, 46, 47, 48, 49, 50, 51, 52, 53, 54, 55, 56, 57, 58, 59, 60] (by decide +kernel) (by decide +kernel)
set_option maxRecDepth 20000 in
theorem gX9_least_X9_workOf : GoodIn wsX9_least (wsV RX9 124 RX9 yX9_workOf wsX9_workOf) := goodIn_app (goodIn_of _ (by decide +kernel)) ggX9_least_X9_workOf
theorem dX9_least_0 : decode cX9_least 0 = .ok (.iload_n 1, 1) := by decide +kernel
theorem dX9_least_1 : decode cX9_least 1 = .ok (.iload_n 2, 1) := by decide +kernel
theorem dX9_least_2 : decode cX9_least 2 = .ok (.invokestatic 116, 3) := by decide +kernel
theorem dX9_least_5 : decode cX9_least 5 = .ok (.ifCond .eq 20, 3) := by decide +kernel
theorem dX9_least_8 : decode cX9_least 8 = .ok (.iload_n 3, 1) := by decide +kernel
theorem dX9_least_9 : decode cX9_least 9 = .ok (.i2l, 1) := by decide +kernel
theorem dX9_least_10 : decode cX9_least 10 = .ok (.lconst 0, 1) := by decide +kernel
theorem dX9_least_11 : decode cX9_least 11 = .ok (.ldc2_w 106, 3) := by decide +kernel
theorem dX9_least_14 : decode cX9_least 14 = .ok (.invokestatic 102, 3) := by decide +kernel
theorem dX9_least_17 : decode cX9_least 17 = .ok (.ifCond .eq 8, 3) := by decide +kernel
theorem dX9_least_20 : decode cX9_least 20 = .ok (.iload 4, 2) := by decide +kernel
theorem dX9_least_22 : decode cX9_least 22 = .ok (.ifCond .ge 5, 3) := by decide +kernel
theorem dX9_least_25 : decode cX9_least 25 = .ok (.iconst (-1), 1) := by decide +kernel
theorem dX9_least_26 : decode cX9_least 26 = .ok (.ireturn, 1) := by decide +kernel
theorem dX9_least_27 : decode cX9_least 27 = .ok (.iconst 0, 1) := by decide +kernel
theorem dX9_least_28 : decode cX9_least 28 = .ok (.istore 5, 2) := by decide +kernel
theorem dX9_least_30 : decode cX9_least 30 = .ok (.iconst 0, 1) := by decide +kernel
theorem dX9_least_31 : decode cX9_least 31 = .ok (.istore 6, 2) := by decide +kernel
theorem dX9_least_33 : decode cX9_least 33 = .ok (.iload 6, 2) := by decide +kernel
theorem dX9_least_35 : decode cX9_least 35 = .ok (.bipush 93, 2) := by decide +kernel
theorem dX9_least_37 : decode cX9_least 37 = .ok (.if_icmp .ge 68, 3) := by decide +kernel
theorem dX9_least_40 : decode cX9_least 40 = .ok (.aload_n 0, 1) := by decide +kernel
theorem dX9_least_41 : decode cX9_least 41 = .ok (.iload_n 1, 1) := by decide +kernel
theorem dX9_least_42 : decode cX9_least 42 = .ok (.iload_n 2, 1) := by decide +kernel
theorem dX9_least_43 : decode cX9_least 43 = .ok (.aload_n 0, 1) := by decide +kernel
theorem dX9_least_44 : decode cX9_least 44 = .ok (.getfield 7, 3) := by decide +kernel
theorem dX9_least_47 : decode cX9_least 47 = .ok (.iload 6, 2) := by decide +kernel
theorem dX9_least_49 : decode cX9_least 49 = .ok (.iaload, 1) := by decide +kernel
theorem dX9_least_50 : decode cX9_least 50 = .ok (.invokevirtual 124, 3) := by decide +kernel
theorem dX9_least_53 : decode cX9_least 53 = .ok (.iload_n 3, 1) := by decide +kernel
theorem dX9_least_54 : decode cX9_least 54 = .ok (.if_icmp .ne 7, 3) := by decide +kernel
theorem dX9_least_57 : decode cX9_least 57 = .ok (.iconst 1, 1) := by decide +kernel
theorem dX9_least_58 : decode cX9_least 58 = .ok (.goto 4, 3) := by decide +kernel
theorem dX9_least_61 : decode cX9_least 61 = .ok (.iconst 0, 1) := by decide +kernel
theorem dX9_least_62 : decode cX9_least 62 = .ok (.istore 7, 2) := by decide +kernel
theorem dX9_least_64 : decode cX9_least 64 = .ok (.iload 7, 2) := by decide +kernel
theorem dX9_least_66 : decode cX9_least 66 = .ok (.ifCond .eq 18, 3) := by decide +kernel
theorem dX9_least_69 : decode cX9_least 69 = .ok (.iload 5, 2) := by decide +kernel
theorem dX9_least_71 : decode cX9_least 71 = .ok (.iload 4, 2) := by decide +kernel
theorem dX9_least_73 : decode cX9_least 73 = .ok (.if_icmp .ne 11, 3) := by decide +kernel
theorem dX9_least_76 : decode cX9_least 76 = .ok (.aload_n 0, 1) := by decide +kernel
theorem dX9_least_77 : decode cX9_least 77 = .ok (.getfield 7, 3) := by decide +kernel
theorem dX9_least_80 : decode cX9_least 80 = .ok (.iload 6, 2) := by decide +kernel
theorem dX9_least_82 : decode cX9_least 82 = .ok (.iaload, 1) := by decide +kernel
theorem dX9_least_83 : decode cX9_least 83 = .ok (.ireturn, 1) := by decide +kernel
theorem dX9_least_84 : decode cX9_least 84 = .ok (.iload 5, 2) := by decide +kernel
theorem dX9_least_86 : decode cX9_least 86 = .ok (.iload 7, 2) := by decide +kernel
theorem dX9_least_88 : decode cX9_least 88 = .ok (.ifCond .eq 7, 3) := by decide +kernel
theorem dX9_least_91 : decode cX9_least 91 = .ok (.iconst 1, 1) := by decide +kernel
theorem dX9_least_92 : decode cX9_least 92 = .ok (.goto 4, 3) := by decide +kernel
theorem dX9_least_95 : decode cX9_least 95 = .ok (.iconst 0, 1) := by decide +kernel
theorem dX9_least_96 : decode cX9_least 96 = .ok (.iadd, 1) := by decide +kernel
theorem dX9_least_97 : decode cX9_least 97 = .ok (.istore 5, 2) := by decide +kernel
theorem dX9_least_99 : decode cX9_least 99 = .ok (.iinc 6 1, 3) := by decide +kernel
theorem dX9_least_102 : decode cX9_least 102 = .ok (.goto (-69), 3) := by decide +kernel
theorem dX9_least_105 : decode cX9_least 105 = .ok (.bipush (-4), 2) := by decide +kernel
theorem dX9_least_107 : decode cX9_least 107 = .ok (.ireturn, 1) := by decide +kernel
set_option maxRecDepth 20000 in
theorem ggX9_parts_X9_isSet : GoodIn wsX9_parts wsX9_isSet := goodIn_r _ [5, 6, 7, 8, 4, 9] (by decide +kernel) (by decide +kernel)
set_option maxRecDepth 20000 in
theorem gX9_parts_X9_isSet : GoodIn wsX9_parts (va_wsS RX9 120 yX9_isSet wsX9_isSet) := goodIn_app (goodIn_of _ (by decide +kernel)) ggX9_parts_X9_isSet
set_option maxRecDepth 20000 in
theorem ggX9_parts_X9_in : GoodIn wsX9_parts wsX9_in := goodIn_r _ [9] (by decide +kernel) (by decide +kernel)
set_option maxRecDepth 20000 in
theorem gX9_parts_X9_in : GoodIn wsX9_parts (va_wsS RX9 102 yX9_in wsX9_in) := goodIn_app (goodIn_of _ (by decide +kernel)) ggX9_parts_X9_in
set_option maxRecDepth 20000 in
theorem ggX9_parts_X9_workOf : GoodIn wsX9_parts wsX9_workOf := goodIn_r _ [13, 14, 15, 16, 17, 18, 4, 19, 20, 21, 22, 23, 24, 25, 26, 27, 28, 29, 30, 31, 32, 33, 34, 35, 36, 37, 38, 39, 40, 41, 42, 43, 44, 45, 46, 47, 48, 49, 50, 51, 52, 53, 54, 55, 56, 57, 58, 59, 60] (by decide +kernel) (by decide +kernel)
set_option maxRecDepth 20000 in
theorem gX9_parts_X9_workOf : GoodIn wsX9_parts (wsV RX9 124 RX9 yX9_workOf wsX9_workOf) := goodIn_app (goodIn_of _ (by decide +kernel)) ggX9_parts_X9_workOf
theorem dX9_parts_0 : decode cX9_parts 0 = .ok (.iload_n 1, 1) := by decide +kernel
theorem dX9_parts_1 : decode cX9_parts 1 = .ok (.invokestatic 120, 3) := by decide +kernel
theorem dX9_parts_4 : decode cX9_parts 4 = .ok (.ifCond .eq 22, 3) := by decide +kernel
theorem dX9_parts_7 : decode cX9_parts 7 = .ok (.iload_n 2, 1) := by decide +kernel
theorem dX9_parts_8 : decode cX9_parts 8 = .ok (.invokestatic 120, 3) := by decide +kernel
theorem dX9_parts_11 : decode cX9_parts 11 = .ok (.ifCond .eq 15, 3) := by decide +kernel
theorem dX9_parts_14 : decode cX9_parts 14 = .ok (.iload_n 3, 1) := by decide +kernel
theorem dX9_parts_15 : decode cX9_parts 15 = .ok (.i2l, 1) := by decide +kernel
theorem dX9_parts_16 : decode cX9_parts 16 = .ok (.lconst 1, 1) := by decide +kernel
theorem dX9_parts_17 : decode cX9_parts 17 = .ok (.ldc2_w 130, 3) := by decide +kernel
theorem dX9_parts_20 : decode cX9_parts 20 = .ok (.invokestatic 102, 3) := by decide +kernel
theorem dX9_parts_23 : decode cX9_parts 23 = .ok (.ifCond .ne 5, 3) := by decide +kernel
theorem dX9_parts_26 : decode cX9_parts 26 = .ok (.iconst (-1), 1) := by decide +kernel
theorem dX9_parts_27 : decode cX9_parts 27 = .ok (.ireturn, 1) := by decide +kernel
theorem dX9_parts_28 : decode cX9_parts 28 = .ok (.iconst 0, 1) := by decide +kernel
theorem dX9_parts_29 : decode cX9_parts 29 = .ok (.istore 4, 2) := by decide +kernel
theorem dX9_parts_31 : decode cX9_parts 31 = .ok (.iload 4, 2) := by decide +kernel
theorem dX9_parts_33 : decode cX9_parts 33 = .ok (.iload_n 3, 1) := by decide +kernel
theorem dX9_parts_34 : decode cX9_parts 34 = .ok (.if_icmp .ge 56, 3) := by decide +kernel
theorem dX9_parts_37 : decode cX9_parts 37 = .ok (.iconst 0, 1) := by decide +kernel
theorem dX9_parts_38 : decode cX9_parts 38 = .ok (.istore 5, 2) := by decide +kernel
theorem dX9_parts_40 : decode cX9_parts 40 = .ok (.iload 5, 2) := by decide +kernel
theorem dX9_parts_42 : decode cX9_parts 42 = .ok (.iload 4, 2) := by decide +kernel
theorem dX9_parts_44 : decode cX9_parts 44 = .ok (.if_icmp .gt 40, 3) := by decide +kernel
theorem dX9_parts_47 : decode cX9_parts 47 = .ok (.aload_n 0, 1) := by decide +kernel
theorem dX9_parts_48 : decode cX9_parts 48 = .ok (.iload 4, 2) := by decide +kernel
theorem dX9_parts_50 : decode cX9_parts 50 = .ok (.iload 5, 2) := by decide +kernel
theorem dX9_parts_52 : decode cX9_parts 52 = .ok (.iload_n 1, 1) := by decide +kernel
theorem dX9_parts_53 : decode cX9_parts 53 = .ok (.invokevirtual 124, 3) := by decide +kernel
theorem dX9_parts_56 : decode cX9_parts 56 = .ok (.aload_n 0, 1) := by decide +kernel
theorem dX9_parts_57 : decode cX9_parts 57 = .ok (.iload 4, 2) := by decide +kernel
theorem dX9_parts_59 : decode cX9_parts 59 = .ok (.iload 5, 2) := by decide +kernel
theorem dX9_parts_61 : decode cX9_parts 61 = .ok (.iload_n 2, 1) := by decide +kernel
theorem dX9_parts_62 : decode cX9_parts 62 = .ok (.invokevirtual 124, 3) := by decide +kernel
theorem dX9_parts_65 : decode cX9_parts 65 = .ok (.if_icmp .eq 13, 3) := by decide +kernel
theorem dX9_parts_68 : decode cX9_parts 68 = .ok (.sipush 1000, 3) := by decide +kernel
theorem dX9_parts_71 : decode cX9_parts 71 = .ok (.iload 4, 2) := by decide +kernel
theorem dX9_parts_73 : decode cX9_parts 73 = .ok (.imul, 1) := by decide +kernel
theorem dX9_parts_74 : decode cX9_parts 74 = .ok (.iload 5, 2) := by decide +kernel
theorem dX9_parts_76 : decode cX9_parts 76 = .ok (.iadd, 1) := by decide +kernel
theorem dX9_parts_77 : decode cX9_parts 77 = .ok (.ireturn, 1) := by decide +kernel
theorem dX9_parts_78 : decode cX9_parts 78 = .ok (.iinc 5 1, 3) := by decide +kernel
theorem dX9_parts_81 : decode cX9_parts 81 = .ok (.goto (-41), 3) := by decide +kernel
theorem dX9_parts_84 : decode cX9_parts 84 = .ok (.iinc 4 1, 3) := by decide +kernel
theorem dX9_parts_87 : decode cX9_parts 87 = .ok (.goto (-56), 3) := by decide +kernel
theorem dX9_parts_90 : decode cX9_parts 90 = .ok (.bipush (-4), 2) := by decide +kernel
theorem dX9_parts_92 : decode cX9_parts 92 = .ok (.ireturn, 1) := by decide +kernel
set_option maxRecDepth 20000 in
theorem ggX9_unlike_X9_workOf : GoodIn wsX9_unlike wsX9_workOf := goodIn_r _ [7, 8, 9, 10, 11, 12, 6, 13, 14, 15, 16, 17, 18, 19, 20, 21, 22, 23, 24, 25, 26, 27, 28, 29, 30, 31, 32, 33, 34, 35, 36, 37, 38, 39, 40, 41, 42, 43, 44, 45, 46, 47, 48, 49, 50, 51, 52, 53, 54] (by decide +kernel) (by decide +kernel)
set_option maxRecDepth 20000 in
theorem gX9_unlike_X9_workOf : GoodIn wsX9_unlike (wsV RX9 124 RX9 yX9_workOf wsX9_workOf) := goodIn_app (goodIn_of _ (by decide +kernel)) ggX9_unlike_X9_workOf
theorem dX9_unlike_0 : decode cX9_unlike 0 = .ok (.iconst 0, 1) := by decide +kernel
theorem dX9_unlike_1 : decode cX9_unlike 1 = .ok (.istore 6, 2) := by decide +kernel
theorem dX9_unlike_3 : decode cX9_unlike 3 = .ok (.iconst 0, 1) := by decide +kernel
theorem dX9_unlike_4 : decode cX9_unlike 4 = .ok (.istore 7, 2) := by decide +kernel
theorem dX9_unlike_6 : decode cX9_unlike 6 = .ok (.iload 7, 2) := by decide +kernel
theorem dX9_unlike_8 : decode cX9_unlike 8 = .ok (.iload 5, 2) := by decide +kernel
theorem dX9_unlike_10 : decode cX9_unlike 10 = .ok (.if_icmp .ge 100, 3) := by decide +kernel
theorem dX9_unlike_13 : decode cX9_unlike 13 = .ok (.aload_n 0, 1) := by decide +kernel
theorem dX9_unlike_14 : decode cX9_unlike 14 = .ok (.getfield 22, 3) := by decide +kernel
theorem dX9_unlike_17 : decode cX9_unlike 17 = .ok (.iload 7, 2) := by decide +kernel
theorem dX9_unlike_19 : decode cX9_unlike 19 = .ok (.aload_n 0, 1) := by decide +kernel
theorem dX9_unlike_20 : decode cX9_unlike 20 = .ok (.iload_n 1, 1) := by decide +kernel
theorem dX9_unlike_21 : decode cX9_unlike 21 = .ok (.iload_n 2, 1) := by decide +kernel
theorem dX9_unlike_22 : decode cX9_unlike 22 = .ok (.aload_n 0, 1) := by decide +kernel
theorem dX9_unlike_23 : decode cX9_unlike 23 = .ok (.getfield 86, 3) := by decide +kernel
theorem dX9_unlike_26 : decode cX9_unlike 26 = .ok (.bipush 40, 2) := by decide +kernel
theorem dX9_unlike_28 : decode cX9_unlike 28 = .ok (.iload_n 3, 1) := by decide +kernel
theorem dX9_unlike_29 : decode cX9_unlike 29 = .ok (.imul, 1) := by decide +kernel
theorem dX9_unlike_30 : decode cX9_unlike 30 = .ok (.iload 4, 2) := by decide +kernel
theorem dX9_unlike_32 : decode cX9_unlike 32 = .ok (.iadd, 1) := by decide +kernel
theorem dX9_unlike_33 : decode cX9_unlike 33 = .ok (.iload 7, 2) := by decide +kernel
theorem dX9_unlike_35 : decode cX9_unlike 35 = .ok (.iadd, 1) := by decide +kernel
theorem dX9_unlike_36 : decode cX9_unlike 36 = .ok (.iaload, 1) := by decide +kernel
theorem dX9_unlike_37 : decode cX9_unlike 37 = .ok (.invokevirtual 124, 3) := by decide +kernel
theorem dX9_unlike_40 : decode cX9_unlike 40 = .ok (.iastore, 1) := by decide +kernel
theorem dX9_unlike_41 : decode cX9_unlike 41 = .ok (.iconst 1, 1) := by decide +kernel
theorem dX9_unlike_42 : decode cX9_unlike 42 = .ok (.istore 8, 2) := by decide +kernel
theorem dX9_unlike_44 : decode cX9_unlike 44 = .ok (.iconst 0, 1) := by decide +kernel
theorem dX9_unlike_45 : decode cX9_unlike 45 = .ok (.istore 9, 2) := by decide +kernel
theorem dX9_unlike_47 : decode cX9_unlike 47 = .ok (.iload 9, 2) := by decide +kernel
theorem dX9_unlike_49 : decode cX9_unlike 49 = .ok (.iload 7, 2) := by decide +kernel
theorem dX9_unlike_51 : decode cX9_unlike 51 = .ok (.if_icmp .ge 38, 3) := by decide +kernel
theorem dX9_unlike_54 : decode cX9_unlike 54 = .ok (.iload 8, 2) := by decide +kernel
theorem dX9_unlike_56 : decode cX9_unlike 56 = .ok (.ifCond .eq 24, 3) := by decide +kernel
theorem dX9_unlike_59 : decode cX9_unlike 59 = .ok (.aload_n 0, 1) := by decide +kernel
theorem dX9_unlike_60 : decode cX9_unlike 60 = .ok (.getfield 22, 3) := by decide +kernel
theorem dX9_unlike_63 : decode cX9_unlike 63 = .ok (.iload 9, 2) := by decide +kernel
theorem dX9_unlike_65 : decode cX9_unlike 65 = .ok (.iaload, 1) := by decide +kernel
theorem dX9_unlike_66 : decode cX9_unlike 66 = .ok (.aload_n 0, 1) := by decide +kernel
theorem dX9_unlike_67 : decode cX9_unlike 67 = .ok (.getfield 22, 3) := by decide +kernel
theorem dX9_unlike_70 : decode cX9_unlike 70 = .ok (.iload 7, 2) := by decide +kernel
theorem dX9_unlike_72 : decode cX9_unlike 72 = .ok (.iaload, 1) := by decide +kernel
theorem dX9_unlike_73 : decode cX9_unlike 73 = .ok (.if_icmp .eq 7, 3) := by decide +kernel
theorem dX9_unlike_76 : decode cX9_unlike 76 = .ok (.iconst 1, 1) := by decide +kernel
theorem dX9_unlike_77 : decode cX9_unlike 77 = .ok (.goto 4, 3) := by decide +kernel
theorem dX9_unlike_80 : decode cX9_unlike 80 = .ok (.iconst 0, 1) := by decide +kernel
theorem dX9_unlike_81 : decode cX9_unlike 81 = .ok (.istore 8, 2) := by decide +kernel
theorem dX9_unlike_83 : decode cX9_unlike 83 = .ok (.iinc 9 1, 3) := by decide +kernel
theorem dX9_unlike_86 : decode cX9_unlike 86 = .ok (.goto (-39), 3) := by decide +kernel
theorem dX9_unlike_89 : decode cX9_unlike 89 = .ok (.iload 6, 2) := by decide +kernel
theorem dX9_unlike_91 : decode cX9_unlike 91 = .ok (.iload 8, 2) := by decide +kernel
theorem dX9_unlike_93 : decode cX9_unlike 93 = .ok (.ifCond .eq 7, 3) := by decide +kernel
theorem dX9_unlike_96 : decode cX9_unlike 96 = .ok (.iconst 1, 1) := by decide +kernel
theorem dX9_unlike_97 : decode cX9_unlike 97 = .ok (.goto 4, 3) := by decide +kernel
theorem dX9_unlike_100 : decode cX9_unlike 100 = .ok (.iconst 0, 1) := by decide +kernel
theorem dX9_unlike_101 : decode cX9_unlike 101 = .ok (.iadd, 1) := by decide +kernel
theorem dX9_unlike_102 : decode cX9_unlike 102 = .ok (.istore 6, 2) := by decide +kernel
theorem dX9_unlike_104 : decode cX9_unlike 104 = .ok (.iinc 7 1, 3) := by decide +kernel
theorem dX9_unlike_107 : decode cX9_unlike 107 = .ok (.goto (-101), 3) := by decide +kernel
theorem dX9_unlike_110 : decode cX9_unlike 110 = .ok (.iload 6, 2) := by decide +kernel
theorem dX9_unlike_112 : decode cX9_unlike 112 = .ok (.ireturn, 1) := by decide +kernel
set_option maxRecDepth 20000 in
theorem ggX9_probe_X9_in : GoodIn wsX9_probe wsX9_in := goodIn_r _ [7] (by decide +kernel) (by decide +kernel)
set_option maxRecDepth 20000 in
theorem gX9_probe_X9_in : GoodIn wsX9_probe (va_wsS RX9 102 yX9_in wsX9_in) := goodIn_app (goodIn_of _ (by decide +kernel)) ggX9_probe_X9_in
set_option maxRecDepth 20000 in
theorem ggX9_probe_X9_isSheet : GoodIn wsX9_probe wsX9_isSheet := goodIn_r _ [10, 11, 4, 5, 6, 7] (by decide +kernel) (by decide +kernel)
set_option maxRecDepth 20000 in
theorem gX9_probe_X9_isSheet : GoodIn wsX9_probe (va_wsS RX9 132 yX9_isSheet wsX9_isSheet) := goodIn_app (goodIn_of _ (by decide +kernel)) ggX9_probe_X9_isSheet
set_option maxRecDepth 20000 in
theorem ggX9_probe_X9_isLane : GoodIn wsX9_probe wsX9_isLane := goodIn_r _ [14, 15, 4, 5, 6, 7] (by decide +kernel) (by decide +kernel)
set_option maxRecDepth 20000 in
theorem gX9_probe_X9_isLane : GoodIn wsX9_probe (va_wsS RX9 135 yX9_isLane wsX9_isLane) := goodIn_app (goodIn_of _ (by decide +kernel)) ggX9_probe_X9_isLane
set_option maxRecDepth 20000 in
theorem ggX9_probe_X9_finds : GoodIn wsX9_probe wsX9_finds := goodIn_r _ [19, 20, 21, 45, 46, 47, 48, 49, 50, 51, 52, 53, 54, 55, 56, 57, 58, 59, 60, 61, 62, 63, 64, 65, 66, 67, 68, 69, 70, 71, 72, 73, 74, 75, 76, 77, 78, 79, 80, 81] (by decide +kernel) (by decide +kernel)
set_option maxRecDepth 20000 in
theorem gX9_probe_X9_finds : GoodIn wsX9_probe (wsV RX9 140 RX9 yX9_finds wsX9_finds) := goodIn_app (goodIn_of _ (by decide +kernel)) ggX9_probe_X9_finds
set_option maxRecDepth 20000 in
theorem ggX9_probe_X9_isSet : GoodIn wsX9_probe wsX9_isSet := goodIn_r _ [24, 25, 4, 5, 6, 7] (by decide +kernel) (by decide +kernel)
set_option maxRecDepth 20000 in
theorem gX9_probe_X9_isSet : GoodIn wsX9_probe (va_wsS RX9 120 yX9_isSet wsX9_isSet) := goodIn_app (goodIn_of _ (by decide +kernel)) ggX9_probe_X9_isSet
set_option maxRecDepth 20000 in
theorem ggX9_probe_X9_unlike : GoodIn wsX9_probe wsX9_unlike := goodIn_r _ [29, 30, 3, 31, 32, 33, 6, 34, 35, 36, 37, 38, 39, 40, 41, 42, 43, 44, 45, 46, 47, 48, 49, 50, 51, 52, 53, 54, 55, 56, 57, 58, 59, 60, 61, 62, 63, 64, 65, 66, 67, 68, 69, 70, 71, 72, 73, 74, 75, 76, 77, 78, 79, 80, 81] (by decide +kernel) (by decide +kernel)
set_option maxRecDepth 20000 in
theorem gX9_probe_X9_unlike : GoodIn wsX9_probe (wsV RX9 144 RX9 yX9_unlike wsX9_unlike) := goodIn_app (goodIn_of _ (by decide +kernel)) ggX9_probe_X9_unlike
theorem dX9_probe_0 : decode cX9_probe 0 = .ok (.iload_n 1, 1) := by decide +kernel
theorem dX9_probe_1 : decode cX9_probe 1 = .ok (.i2l, 1) := by decide +kernel
theorem dX9_probe_2 : decode cX9_probe 2 = .ok (.lconst 1, 1) := by decide +kernel
theorem dX9_probe_3 : decode cX9_probe 3 = .ok (.ldc2_w 130, 3) := by decide +kernel
theorem dX9_probe_6 : decode cX9_probe 6 = .ok (.invokestatic 102, 3) := by decide +kernel
theorem dX9_probe_9 : decode cX9_probe 9 = .ok (.ifCond .eq 30, 3) := by decide +kernel
theorem dX9_probe_12 : decode cX9_probe 12 = .ok (.iload_n 2, 1) := by decide +kernel
theorem dX9_probe_13 : decode cX9_probe 13 = .ok (.invokestatic 132, 3) := by decide +kernel
theorem dX9_probe_16 : decode cX9_probe 16 = .ok (.ifCond .eq 23, 3) := by decide +kernel
theorem dX9_probe_19 : decode cX9_probe 19 = .ok (.iload_n 3, 1) := by decide +kernel
theorem dX9_probe_20 : decode cX9_probe 20 = .ok (.invokestatic 135, 3) := by decide +kernel
theorem dX9_probe_23 : decode cX9_probe 23 = .ok (.ifCond .eq 16, 3) := by decide +kernel
theorem dX9_probe_26 : decode cX9_probe 26 = .ok (.iload 5, 2) := by decide +kernel
theorem dX9_probe_28 : decode cX9_probe 28 = .ok (.i2l, 1) := by decide +kernel
theorem dX9_probe_29 : decode cX9_probe 29 = .ok (.lconst 1, 1) := by decide +kernel
theorem dX9_probe_30 : decode cX9_probe 30 = .ok (.ldc2_w 138, 3) := by decide +kernel
theorem dX9_probe_33 : decode cX9_probe 33 = .ok (.invokestatic 102, 3) := by decide +kernel
theorem dX9_probe_36 : decode cX9_probe 36 = .ok (.ifCond .ne 5, 3) := by decide +kernel
theorem dX9_probe_39 : decode cX9_probe 39 = .ok (.iconst (-1), 1) := by decide +kernel
theorem dX9_probe_40 : decode cX9_probe 40 = .ok (.ireturn, 1) := by decide +kernel
theorem dX9_probe_41 : decode cX9_probe 41 = .ok (.aload_n 0, 1) := by decide +kernel
theorem dX9_probe_42 : decode cX9_probe 42 = .ok (.iload_n 2, 1) := by decide +kernel
theorem dX9_probe_43 : decode cX9_probe 43 = .ok (.iload_n 3, 1) := by decide +kernel
theorem dX9_probe_44 : decode cX9_probe 44 = .ok (.iload 4, 2) := by decide +kernel
theorem dX9_probe_46 : decode cX9_probe 46 = .ok (.iload 5, 2) := by decide +kernel
theorem dX9_probe_48 : decode cX9_probe 48 = .ok (.invokevirtual 140, 3) := by decide +kernel
theorem dX9_probe_51 : decode cX9_probe 51 = .ok (.istore 6, 2) := by decide +kernel
theorem dX9_probe_53 : decode cX9_probe 53 = .ok (.iload 6, 2) := by decide +kernel
theorem dX9_probe_55 : decode cX9_probe 55 = .ok (.ifCond .ge 6, 3) := by decide +kernel
theorem dX9_probe_58 : decode cX9_probe 58 = .ok (.iload 6, 2) := by decide +kernel
theorem dX9_probe_60 : decode cX9_probe 60 = .ok (.ireturn, 1) := by decide +kernel
theorem dX9_probe_61 : decode cX9_probe 61 = .ok (.iconst 0, 1) := by decide +kernel
theorem dX9_probe_62 : decode cX9_probe 62 = .ok (.istore 7, 2) := by decide +kernel
theorem dX9_probe_64 : decode cX9_probe 64 = .ok (.iload 7, 2) := by decide +kernel
theorem dX9_probe_66 : decode cX9_probe 66 = .ok (.iload 5, 2) := by decide +kernel
theorem dX9_probe_68 : decode cX9_probe 68 = .ok (.if_icmp .ge 33, 3) := by decide +kernel
theorem dX9_probe_71 : decode cX9_probe 71 = .ok (.aload_n 0, 1) := by decide +kernel
theorem dX9_probe_72 : decode cX9_probe 72 = .ok (.getfield 86, 3) := by decide +kernel
theorem dX9_probe_75 : decode cX9_probe 75 = .ok (.bipush 40, 2) := by decide +kernel
theorem dX9_probe_77 : decode cX9_probe 77 = .ok (.iload_n 2, 1) := by decide +kernel
theorem dX9_probe_78 : decode cX9_probe 78 = .ok (.imul, 1) := by decide +kernel
theorem dX9_probe_79 : decode cX9_probe 79 = .ok (.iload 4, 2) := by decide +kernel
theorem dX9_probe_81 : decode cX9_probe 81 = .ok (.iadd, 1) := by decide +kernel
theorem dX9_probe_82 : decode cX9_probe 82 = .ok (.iload 7, 2) := by decide +kernel
theorem dX9_probe_84 : decode cX9_probe 84 = .ok (.iadd, 1) := by decide +kernel
theorem dX9_probe_85 : decode cX9_probe 85 = .ok (.iaload, 1) := by decide +kernel
theorem dX9_probe_86 : decode cX9_probe 86 = .ok (.invokestatic 120, 3) := by decide +kernel
theorem dX9_probe_89 : decode cX9_probe 89 = .ok (.ifCond .ne 6, 3) := by decide +kernel
theorem dX9_probe_92 : decode cX9_probe 92 = .ok (.bipush (-2), 2) := by decide +kernel
theorem dX9_probe_94 : decode cX9_probe 94 = .ok (.ireturn, 1) := by decide +kernel
theorem dX9_probe_95 : decode cX9_probe 95 = .ok (.iinc 7 1, 3) := by decide +kernel
theorem dX9_probe_98 : decode cX9_probe 98 = .ok (.goto (-34), 3) := by decide +kernel
theorem dX9_probe_101 : decode cX9_probe 101 = .ok (.iconst 0, 1) := by decide +kernel
theorem dX9_probe_102 : decode cX9_probe 102 = .ok (.istore 7, 2) := by decide +kernel
theorem dX9_probe_104 : decode cX9_probe 104 = .ok (.iconst 0, 1) := by decide +kernel
theorem dX9_probe_105 : decode cX9_probe 105 = .ok (.istore 8, 2) := by decide +kernel
theorem dX9_probe_107 : decode cX9_probe 107 = .ok (.iconst 0, 1) := by decide +kernel
theorem dX9_probe_108 : decode cX9_probe 108 = .ok (.istore 9, 2) := by decide +kernel
theorem dX9_probe_110 : decode cX9_probe 110 = .ok (.iload 9, 2) := by decide +kernel
theorem dX9_probe_112 : decode cX9_probe 112 = .ok (.iload_n 1, 1) := by decide +kernel
theorem dX9_probe_113 : decode cX9_probe 113 = .ok (.if_icmp .ge 79, 3) := by decide +kernel
theorem dX9_probe_116 : decode cX9_probe 116 = .ok (.iconst 0, 1) := by decide +kernel
theorem dX9_probe_117 : decode cX9_probe 117 = .ok (.istore 10, 2) := by decide +kernel
theorem dX9_probe_119 : decode cX9_probe 119 = .ok (.iload 10, 2) := by decide +kernel
theorem dX9_probe_121 : decode cX9_probe 121 = .ok (.iload 9, 2) := by decide +kernel
theorem dX9_probe_123 : decode cX9_probe 123 = .ok (.if_icmp .gt 63, 3) := by decide +kernel
theorem dX9_probe_126 : decode cX9_probe 126 = .ok (.aload_n 0, 1) := by decide +kernel
theorem dX9_probe_127 : decode cX9_probe 127 = .ok (.iload 9, 2) := by decide +kernel
theorem dX9_probe_129 : decode cX9_probe 129 = .ok (.iload 10, 2) := by decide +kernel
theorem dX9_probe_131 : decode cX9_probe 131 = .ok (.iload_n 2, 1) := by decide +kernel
theorem dX9_probe_132 : decode cX9_probe 132 = .ok (.iload 4, 2) := by decide +kernel
theorem dX9_probe_134 : decode cX9_probe 134 = .ok (.iload 5, 2) := by decide +kernel
theorem dX9_probe_136 : decode cX9_probe 136 = .ok (.invokevirtual 144, 3) := by decide +kernel
theorem dX9_probe_139 : decode cX9_probe 139 = .ok (.istore 11, 2) := by decide +kernel
theorem dX9_probe_141 : decode cX9_probe 141 = .ok (.iload 11, 2) := by decide +kernel
theorem dX9_probe_143 : decode cX9_probe 143 = .ok (.iload 8, 2) := by decide +kernel
theorem dX9_probe_145 : decode cX9_probe 145 = .ok (.if_icmp .le 15, 3) := by decide +kernel
theorem dX9_probe_148 : decode cX9_probe 148 = .ok (.sipush 1000, 3) := by decide +kernel
theorem dX9_probe_151 : decode cX9_probe 151 = .ok (.iload 9, 2) := by decide +kernel
theorem dX9_probe_153 : decode cX9_probe 153 = .ok (.imul, 1) := by decide +kernel
theorem dX9_probe_154 : decode cX9_probe 154 = .ok (.iload 10, 2) := by decide +kernel
theorem dX9_probe_156 : decode cX9_probe 156 = .ok (.iadd, 1) := by decide +kernel
theorem dX9_probe_157 : decode cX9_probe 157 = .ok (.goto 5, 3) := by decide +kernel
theorem dX9_probe_160 : decode cX9_probe 160 = .ok (.iload 7, 2) := by decide +kernel
theorem dX9_probe_162 : decode cX9_probe 162 = .ok (.istore 7, 2) := by decide +kernel
theorem dX9_probe_164 : decode cX9_probe 164 = .ok (.iload 11, 2) := by decide +kernel
theorem dX9_probe_166 : decode cX9_probe 166 = .ok (.iload 8, 2) := by decide +kernel
theorem dX9_probe_168 : decode cX9_probe 168 = .ok (.if_icmp .le 8, 3) := by decide +kernel
theorem dX9_probe_171 : decode cX9_probe 171 = .ok (.iload 11, 2) := by decide +kernel
theorem dX9_probe_173 : decode cX9_probe 173 = .ok (.goto 5, 3) := by decide +kernel
theorem dX9_probe_176 : decode cX9_probe 176 = .ok (.iload 8, 2) := by decide +kernel
theorem dX9_probe_178 : decode cX9_probe 178 = .ok (.istore 8, 2) := by decide +kernel
theorem dX9_probe_180 : decode cX9_probe 180 = .ok (.iinc 10 1, 3) := by decide +kernel
theorem dX9_probe_183 : decode cX9_probe 183 = .ok (.goto (-64), 3) := by decide +kernel
theorem dX9_probe_186 : decode cX9_probe 186 = .ok (.iinc 9 1, 3) := by decide +kernel
theorem dX9_probe_189 : decode cX9_probe 189 = .ok (.goto (-79), 3) := by decide +kernel
theorem dX9_probe_192 : decode cX9_probe 192 = .ok (.iload 7, 2) := by decide +kernel
theorem dX9_probe_194 : decode cX9_probe 194 = .ok (.ireturn, 1) := by decide +kernel
set_option maxRecDepth 20000 in
theorem ggX9_isLearner_X9_in : GoodIn wsX9_isLearner wsX9_in := goodIn_r _ [5] (by decide +kernel) (by decide +kernel)
set_option maxRecDepth 20000 in
theorem gX9_isLearner_X9_in : GoodIn wsX9_isLearner (va_wsS RX9 102 yX9_in wsX9_in) := goodIn_app (goodIn_of _ (by decide +kernel)) ggX9_isLearner_X9_in
theorem dX9_isLearner_0 : decode cX9_isLearner 0 = .ok (.iload_n 1, 1) := by decide +kernel
theorem dX9_isLearner_1 : decode cX9_isLearner 1 = .ok (.i2l, 1) := by decide +kernel
theorem dX9_isLearner_2 : decode cX9_isLearner 2 = .ok (.lconst 0, 1) := by decide +kernel
theorem dX9_isLearner_3 : decode cX9_isLearner 3 = .ok (.aload_n 0, 1) := by decide +kernel
theorem dX9_isLearner_4 : decode cX9_isLearner 4 = .ok (.getfield 148, 3) := by decide +kernel
theorem dX9_isLearner_7 : decode cX9_isLearner 7 = .ok (.iconst 1, 1) := by decide +kernel
theorem dX9_isLearner_8 : decode cX9_isLearner 8 = .ok (.isub, 1) := by decide +kernel
theorem dX9_isLearner_9 : decode cX9_isLearner 9 = .ok (.i2l, 1) := by decide +kernel
theorem dX9_isLearner_10 : decode cX9_isLearner 10 = .ok (.invokestatic 102, 3) := by decide +kernel
theorem dX9_isLearner_13 : decode cX9_isLearner 13 = .ok (.ireturn, 1) := by decide +kernel
theorem dX9_learner_0 : decode cX9_learner 0 = .ok (.aload_n 0, 1) := by decide +kernel
theorem dX9_learner_1 : decode cX9_learner 1 = .ok (.getfield 148, 3) := by decide +kernel
theorem dX9_learner_4 : decode cX9_learner 4 = .ok (.bipush 12, 2) := by decide +kernel
theorem dX9_learner_6 : decode cX9_learner 6 = .ok (.if_icmp .ne 6, 3) := by decide +kernel
theorem dX9_learner_9 : decode cX9_learner 9 = .ok (.bipush (-3), 2) := by decide +kernel
theorem dX9_learner_11 : decode cX9_learner 11 = .ok (.ireturn, 1) := by decide +kernel
theorem dX9_learner_12 : decode cX9_learner 12 = .ok (.aload_n 0, 1) := by decide +kernel
theorem dX9_learner_13 : decode cX9_learner 13 = .ok (.getfield 25, 3) := by decide +kernel
theorem dX9_learner_16 : decode cX9_learner 16 = .ok (.aload_n 0, 1) := by decide +kernel
theorem dX9_learner_17 : decode cX9_learner 17 = .ok (.getfield 148, 3) := by decide +kernel
theorem dX9_learner_20 : decode cX9_learner 20 = .ok (.iconst 0, 1) := by decide +kernel
theorem dX9_learner_21 : decode cX9_learner 21 = .ok (.iastore, 1) := by decide +kernel
theorem dX9_learner_22 : decode cX9_learner 22 = .ok (.aload_n 0, 1) := by decide +kernel
theorem dX9_learner_23 : decode cX9_learner 23 = .ok (.dup, 1) := by decide +kernel
theorem dX9_learner_24 : decode cX9_learner 24 = .ok (.getfield 148, 3) := by decide +kernel
theorem dX9_learner_27 : decode cX9_learner 27 = .ok (.iconst 1, 1) := by decide +kernel
theorem dX9_learner_28 : decode cX9_learner 28 = .ok (.iadd, 1) := by decide +kernel
theorem dX9_learner_29 : decode cX9_learner 29 = .ok (.putfield 148, 3) := by decide +kernel
theorem dX9_learner_32 : decode cX9_learner 32 = .ok (.aload_n 0, 1) := by decide +kernel
theorem dX9_learner_33 : decode cX9_learner 33 = .ok (.getfield 148, 3) := by decide +kernel
theorem dX9_learner_36 : decode cX9_learner 36 = .ok (.iconst 1, 1) := by decide +kernel
theorem dX9_learner_37 : decode cX9_learner 37 = .ok (.isub, 1) := by decide +kernel
theorem dX9_learner_38 : decode cX9_learner 38 = .ok (.ireturn, 1) := by decide +kernel
theorem dX9_puts_0 : decode cX9_puts 0 = .ok (.bipush 40, 2) := by decide +kernel
theorem dX9_puts_2 : decode cX9_puts 2 = .ok (.iload_n 1, 1) := by decide +kernel
theorem dX9_puts_3 : decode cX9_puts 3 = .ok (.imul, 1) := by decide +kernel
theorem dX9_puts_4 : decode cX9_puts 4 = .ok (.aload_n 0, 1) := by decide +kernel
theorem dX9_puts_5 : decode cX9_puts 5 = .ok (.getfield 25, 3) := by decide +kernel
theorem dX9_puts_8 : decode cX9_puts 8 = .ok (.iload_n 1, 1) := by decide +kernel
theorem dX9_puts_9 : decode cX9_puts 9 = .ok (.iaload, 1) := by decide +kernel
theorem dX9_puts_10 : decode cX9_puts 10 = .ok (.iadd, 1) := by decide +kernel
theorem dX9_puts_11 : decode cX9_puts 11 = .ok (.istore 5, 2) := by decide +kernel
theorem dX9_puts_13 : decode cX9_puts 13 = .ok (.aload_n 0, 1) := by decide +kernel
theorem dX9_puts_14 : decode cX9_puts 14 = .ok (.getfield 28, 3) := by decide +kernel
theorem dX9_puts_17 : decode cX9_puts 17 = .ok (.iload 5, 2) := by decide +kernel
theorem dX9_puts_19 : decode cX9_puts 19 = .ok (.iload_n 2, 1) := by decide +kernel
theorem dX9_puts_20 : decode cX9_puts 20 = .ok (.iastore, 1) := by decide +kernel
theorem dX9_puts_21 : decode cX9_puts 21 = .ok (.aload_n 0, 1) := by decide +kernel
theorem dX9_puts_22 : decode cX9_puts 22 = .ok (.getfield 31, 3) := by decide +kernel
theorem dX9_puts_25 : decode cX9_puts 25 = .ok (.iload 5, 2) := by decide +kernel
theorem dX9_puts_27 : decode cX9_puts 27 = .ok (.iload_n 3, 1) := by decide +kernel
theorem dX9_puts_28 : decode cX9_puts 28 = .ok (.iastore, 1) := by decide +kernel
theorem dX9_puts_29 : decode cX9_puts 29 = .ok (.aload_n 0, 1) := by decide +kernel
theorem dX9_puts_30 : decode cX9_puts 30 = .ok (.getfield 34, 3) := by decide +kernel
theorem dX9_puts_33 : decode cX9_puts 33 = .ok (.iload 5, 2) := by decide +kernel
theorem dX9_puts_35 : decode cX9_puts 35 = .ok (.iload 4, 2) := by decide +kernel
theorem dX9_puts_37 : decode cX9_puts 37 = .ok (.iastore, 1) := by decide +kernel
theorem dX9_puts_38 : decode cX9_puts 38 = .ok (.aload_n 0, 1) := by decide +kernel
theorem dX9_puts_39 : decode cX9_puts 39 = .ok (.getfield 37, 3) := by decide +kernel
theorem dX9_puts_42 : decode cX9_puts 42 = .ok (.iload 5, 2) := by decide +kernel
theorem dX9_puts_44 : decode cX9_puts 44 = .ok (.iconst 0, 1) := by decide +kernel
theorem dX9_puts_45 : decode cX9_puts 45 = .ok (.bastore, 1) := by decide +kernel
theorem dX9_puts_46 : decode cX9_puts 46 = .ok (.aload_n 0, 1) := by decide +kernel
theorem dX9_puts_47 : decode cX9_puts 47 = .ok (.getfield 25, 3) := by decide +kernel
theorem dX9_puts_50 : decode cX9_puts 50 = .ok (.iload_n 1, 1) := by decide +kernel
theorem dX9_puts_51 : decode cX9_puts 51 = .ok (.dup2, 1) := by decide +kernel
theorem dX9_puts_52 : decode cX9_puts 52 = .ok (.iaload, 1) := by decide +kernel
theorem dX9_puts_53 : decode cX9_puts 53 = .ok (.iconst 1, 1) := by decide +kernel
theorem dX9_puts_54 : decode cX9_puts 54 = .ok (.iadd, 1) := by decide +kernel
theorem dX9_puts_55 : decode cX9_puts 55 = .ok (.iastore, 1) := by decide +kernel
theorem dX9_puts_56 : decode cX9_puts 56 = .ok (.return_, 1) := by decide +kernel
set_option maxRecDepth 20000 in
theorem ggX9_answer_X9_isLearner : GoodIn wsX9_answer wsX9_isLearner := goodIn_r _ [7, 8, 9, 10, 6, 11, 23, 24, 25, 26, 27, 28, 29, 30, 31, 32, 33, 34, 35, 36, 37, 38, 39, 40, 41, 42, 43, 44, 45, 46, 47, 48, 49, 50, 51, 52, 53, 54, 55, 56, 57, 58, 59] (by decide +kernel) (by decide +kernel)
set_option maxRecDepth 20000 in
theorem gX9_answer_X9_isLearner : GoodIn wsX9_answer (wsV RX9 151 RX9 yX9_isLearner wsX9_isLearner) := goodIn_app (goodIn_of _ (by decide +kernel)) ggX9_answer_X9_isLearner
set_option maxRecDepth 20000 in
theorem ggX9_answer_X9_isTask : GoodIn wsX9_answer wsX9_isTask := goodIn_r _ [14, 1, 9, 10, 6, 11] (by decide +kernel) (by decide +kernel)
set_option maxRecDepth 20000 in
theorem gX9_answer_X9_isTask : GoodIn wsX9_answer (va_wsS RX9 116 yX9_isTask wsX9_isTask) := goodIn_app (goodIn_of _ (by decide +kernel)) ggX9_answer_X9_isTask
set_option maxRecDepth 20000 in
theorem ggX9_answer_X9_in : GoodIn wsX9_answer wsX9_in := goodIn_r _ [11] (by decide +kernel) (by decide +kernel)
set_option maxRecDepth 20000 in
theorem gX9_answer_X9_in : GoodIn wsX9_answer (va_wsS RX9 102 yX9_in wsX9_in) := goodIn_app (goodIn_of _ (by decide +kernel)) ggX9_answer_X9_in
set_option maxRecDepth 20000 in
theorem ggX9_answer_X9_puts : GoodIn wsX9_answer wsX9_puts := goodIn_r _ [18, 2, 19, 20, 21, 22, 23, 24, 25, 26, 27, 28, 29, 30, 31, 32, 33, 34, 35, 36, 37, 38, 39, 40, 41, 42, 43, 44, 45, 46, 47, 48, 49, 50, 51, 52, 53, 54, 55, 56, 57, 58, 59] (by decide +kernel) (by decide +kernel)
set_option maxRecDepth 20000 in
theorem gX9_answer_X9_puts : GoodIn wsX9_answer (wsV RX9 154 RX9 yX9_puts wsX9_puts) := goodIn_app (goodIn_of _ (by decide +kernel)) ggX9_answer_X9_puts
theorem dX9_answer_0 : decode cX9_answer 0 = .ok (.aload_n 0, 1) := by decide +kernel
theorem dX9_answer_1 : decode cX9_answer 1 = .ok (.iload_n 1, 1) := by decide +kernel
theorem dX9_answer_2 : decode cX9_answer 2 = .ok (.invokevirtual 151, 3) := by decide +kernel
theorem dX9_answer_5 : decode cX9_answer 5 = .ok (.ifCond .eq 24, 3) := by decide +kernel
theorem dX9_answer_8 : decode cX9_answer 8 = .ok (.iload_n 2, 1) := by decide +kernel
theorem dX9_answer_9 : decode cX9_answer 9 = .ok (.iload_n 3, 1) := by decide +kernel
theorem dX9_answer_10 : decode cX9_answer 10 = .ok (.invokestatic 116, 3) := by decide +kernel
theorem dX9_answer_13 : decode cX9_answer 13 = .ok (.ifCond .eq 16, 3) := by decide +kernel
theorem dX9_answer_16 : decode cX9_answer 16 = .ok (.iload 4, 2) := by decide +kernel
theorem dX9_answer_18 : decode cX9_answer 18 = .ok (.i2l, 1) := by decide +kernel
theorem dX9_answer_19 : decode cX9_answer 19 = .ok (.lconst 0, 1) := by decide +kernel
theorem dX9_answer_20 : decode cX9_answer 20 = .ok (.ldc2_w 106, 3) := by decide +kernel
theorem dX9_answer_23 : decode cX9_answer 23 = .ok (.invokestatic 102, 3) := by decide +kernel
theorem dX9_answer_26 : decode cX9_answer 26 = .ok (.ifCond .ne 5, 3) := by decide +kernel
theorem dX9_answer_29 : decode cX9_answer 29 = .ok (.iconst (-1), 1) := by decide +kernel
theorem dX9_answer_30 : decode cX9_answer 30 = .ok (.ireturn, 1) := by decide +kernel
theorem dX9_answer_31 : decode cX9_answer 31 = .ok (.aload_n 0, 1) := by decide +kernel
theorem dX9_answer_32 : decode cX9_answer 32 = .ok (.getfield 25, 3) := by decide +kernel
theorem dX9_answer_35 : decode cX9_answer 35 = .ok (.iload_n 1, 1) := by decide +kernel
theorem dX9_answer_36 : decode cX9_answer 36 = .ok (.iaload, 1) := by decide +kernel
theorem dX9_answer_37 : decode cX9_answer 37 = .ok (.bipush 40, 2) := by decide +kernel
theorem dX9_answer_39 : decode cX9_answer 39 = .ok (.if_icmp .ne 6, 3) := by decide +kernel
theorem dX9_answer_42 : decode cX9_answer 42 = .ok (.bipush (-3), 2) := by decide +kernel
theorem dX9_answer_44 : decode cX9_answer 44 = .ok (.ireturn, 1) := by decide +kernel
theorem dX9_answer_45 : decode cX9_answer 45 = .ok (.aload_n 0, 1) := by decide +kernel
theorem dX9_answer_46 : decode cX9_answer 46 = .ok (.iload_n 1, 1) := by decide +kernel
theorem dX9_answer_47 : decode cX9_answer 47 = .ok (.iload_n 2, 1) := by decide +kernel
theorem dX9_answer_48 : decode cX9_answer 48 = .ok (.iload_n 3, 1) := by decide +kernel
theorem dX9_answer_49 : decode cX9_answer 49 = .ok (.iload 4, 2) := by decide +kernel
theorem dX9_answer_51 : decode cX9_answer 51 = .ok (.invokevirtual 154, 3) := by decide +kernel
theorem dX9_answer_54 : decode cX9_answer 54 = .ok (.aload_n 0, 1) := by decide +kernel
theorem dX9_answer_55 : decode cX9_answer 55 = .ok (.getfield 25, 3) := by decide +kernel
theorem dX9_answer_58 : decode cX9_answer 58 = .ok (.iload_n 1, 1) := by decide +kernel
theorem dX9_answer_59 : decode cX9_answer 59 = .ok (.iaload, 1) := by decide +kernel
theorem dX9_answer_60 : decode cX9_answer 60 = .ok (.iconst 1, 1) := by decide +kernel
theorem dX9_answer_61 : decode cX9_answer 61 = .ok (.isub, 1) := by decide +kernel
theorem dX9_answer_62 : decode cX9_answer 62 = .ok (.ireturn, 1) := by decide +kernel
set_option maxRecDepth 20000 in
theorem ggX9_answers_X9_isLearner : GoodIn wsX9_answers wsX9_isLearner := goodIn_r _ [9, 10, 11, 12, 8, 13, 39, 40, 41, 42, 43, 44, 45, 46, 47, 48, 49, 50, 51, 52, 53, 54, 55, 56, 57, 58, 59, 60, 61, 62, 63, 64, 65, 66, 67, 68, 69, 70, 71, 72, 73, 74, 75] (by decide +kernel) (by decide +kernel)
set_option maxRecDepth 20000 in
theorem gX9_answers_X9_isLearner : GoodIn wsX9_answers (wsV RX9 151 RX9 yX9_isLearner wsX9_isLearner) := goodIn_app (goodIn_of _ (by decide +kernel)) ggX9_answers_X9_isLearner
set_option maxRecDepth 20000 in
theorem ggX9_answers_X9_isSheet : GoodIn wsX9_answers wsX9_isSheet := goodIn_r _ [16, 17, 11, 12, 8, 13] (by decide +kernel) (by decide +kernel)
set_option maxRecDepth 20000 in
theorem gX9_answers_X9_isSheet : GoodIn wsX9_answers (va_wsS RX9 132 yX9_isSheet wsX9_isSheet) := goodIn_app (goodIn_of _ (by decide +kernel)) ggX9_answers_X9_isSheet
set_option maxRecDepth 20000 in
theorem ggX9_answers_X9_isLane : GoodIn wsX9_answers wsX9_isLane := goodIn_r _ [20, 21, 11, 12, 8, 13] (by decide +kernel) (by decide +kernel)
set_option maxRecDepth 20000 in
theorem gX9_answers_X9_isLane : GoodIn wsX9_answers (va_wsS RX9 135 yX9_isLane wsX9_isLane) := goodIn_app (goodIn_of _ (by decide +kernel)) ggX9_answers_X9_isLane
set_option maxRecDepth 20000 in
theorem ggX9_answers_X9_in : GoodIn wsX9_answers wsX9_in := goodIn_r _ [13] (by decide +kernel) (by decide +kernel)
set_option maxRecDepth 20000 in
theorem gX9_answers_X9_in : GoodIn wsX9_answers (va_wsS RX9 102 yX9_in wsX9_in) := goodIn_app (goodIn_of _ (by decide +kernel)) ggX9_answers_X9_in
set_option maxRecDepth 20000 in
theorem ggX9_answers_X9_finds : GoodIn wsX9_answers wsX9_finds := goodIn_r _ [25, 26, 27, 39, 40, 41, 42, 43, 44, 45, 46, 47, 48, 49, 50, 51, 52, 53, 54, 55, 56, 57, 58, 59, 60, 61, 62, 63, 64, 65, 66, 67, 68, 69, 70, 71, 72, 73, 74, 75] (by decide +kernel) (by decide +kernel)
set_option maxRecDepth 20000 in
theorem gX9_answers_X9_finds : GoodIn wsX9_answers (wsV RX9 140 RX9 yX9_finds wsX9_finds) := goodIn_app (goodIn_of _ (by decide +kernel)) ggX9_answers_X9_finds
set_option maxRecDepth 20000 in
theorem ggX9_answers_X9_isTask : GoodIn wsX9_answers wsX9_isTask := goodIn_r _ [30, 3, 11, 12, 8, 13] (by decide +kernel) (by decide +kernel)
set_option maxRecDepth 20000 in
theorem gX9_answers_X9_isTask : GoodIn wsX9_answers (va_wsS RX9 116 yX9_isTask wsX9_isTask) := goodIn_app (goodIn_of _ (by decide +kernel)) ggX9_answers_X9_isTask
set_option maxRecDepth 20000 in
theorem ggX9_answers_X9_puts : GoodIn wsX9_answers wsX9_puts := goodIn_r _ [34, 4, 35, 36, 37, 38, 39, 40, 41, 42, 43, 44, 45, 46, 47, 48, 49, 50, 51, 52, 53, 54, 55, 56, 57, 58, 59, 60, 61, 62, 63, 64, 65, 66, 67, 68, 69, 70, 71, 72, 73, 74, 75] (by decide +kernel) (by decide +kernel)
set_option maxRecDepth 20000 in
theorem gX9_answers_X9_puts : GoodIn wsX9_answers (wsV RX9 154 RX9 yX9_puts wsX9_puts) := goodIn_app (goodIn_of _ (by decide +kernel)) ggX9_answers_X9_puts
theorem dX9_answers_0 : decode cX9_answers 0 = .ok (.aload_n 0, 1) := by decide +kernel
theorem dX9_answers_1 : decode cX9_answers 1 = .ok (.iload_n 1, 1) := by decide +kernel
theorem dX9_answers_2 : decode cX9_answers 2 = .ok (.invokevirtual 151, 3) := by decide +kernel
theorem dX9_answers_5 : decode cX9_answers 5 = .ok (.ifCond .eq 30, 3) := by decide +kernel
theorem dX9_answers_8 : decode cX9_answers 8 = .ok (.iload_n 2, 1) := by decide +kernel
theorem dX9_answers_9 : decode cX9_answers 9 = .ok (.invokestatic 132, 3) := by decide +kernel
theorem dX9_answers_12 : decode cX9_answers 12 = .ok (.ifCond .eq 23, 3) := by decide +kernel
theorem dX9_answers_15 : decode cX9_answers 15 = .ok (.iload_n 3, 1) := by decide +kernel
theorem dX9_answers_16 : decode cX9_answers 16 = .ok (.invokestatic 135, 3) := by decide +kernel
theorem dX9_answers_19 : decode cX9_answers 19 = .ok (.ifCond .eq 16, 3) := by decide +kernel
theorem dX9_answers_22 : decode cX9_answers 22 = .ok (.iload 5, 2) := by decide +kernel
theorem dX9_answers_24 : decode cX9_answers 24 = .ok (.i2l, 1) := by decide +kernel
theorem dX9_answers_25 : decode cX9_answers 25 = .ok (.lconst 0, 1) := by decide +kernel
theorem dX9_answers_26 : decode cX9_answers 26 = .ok (.ldc2_w 158, 3) := by decide +kernel
theorem dX9_answers_29 : decode cX9_answers 29 = .ok (.invokestatic 102, 3) := by decide +kernel
theorem dX9_answers_32 : decode cX9_answers 32 = .ok (.ifCond .ne 5, 3) := by decide +kernel
theorem dX9_answers_35 : decode cX9_answers 35 = .ok (.iconst (-1), 1) := by decide +kernel
theorem dX9_answers_36 : decode cX9_answers 36 = .ok (.ireturn, 1) := by decide +kernel
theorem dX9_answers_37 : decode cX9_answers 37 = .ok (.aload_n 0, 1) := by decide +kernel
theorem dX9_answers_38 : decode cX9_answers 38 = .ok (.iload_n 2, 1) := by decide +kernel
theorem dX9_answers_39 : decode cX9_answers 39 = .ok (.iload_n 3, 1) := by decide +kernel
theorem dX9_answers_40 : decode cX9_answers 40 = .ok (.iload 4, 2) := by decide +kernel
theorem dX9_answers_42 : decode cX9_answers 42 = .ok (.iconst 3, 1) := by decide +kernel
theorem dX9_answers_43 : decode cX9_answers 43 = .ok (.iload 5, 2) := by decide +kernel
theorem dX9_answers_45 : decode cX9_answers 45 = .ok (.imul, 1) := by decide +kernel
theorem dX9_answers_46 : decode cX9_answers 46 = .ok (.invokevirtual 140, 3) := by decide +kernel
theorem dX9_answers_49 : decode cX9_answers 49 = .ok (.istore 6, 2) := by decide +kernel
theorem dX9_answers_51 : decode cX9_answers 51 = .ok (.iload 6, 2) := by decide +kernel
theorem dX9_answers_53 : decode cX9_answers 53 = .ok (.ifCond .ge 6, 3) := by decide +kernel
theorem dX9_answers_56 : decode cX9_answers 56 = .ok (.iload 6, 2) := by decide +kernel
theorem dX9_answers_58 : decode cX9_answers 58 = .ok (.ireturn, 1) := by decide +kernel
theorem dX9_answers_59 : decode cX9_answers 59 = .ok (.bipush 40, 2) := by decide +kernel
theorem dX9_answers_61 : decode cX9_answers 61 = .ok (.iload_n 2, 1) := by decide +kernel
theorem dX9_answers_62 : decode cX9_answers 62 = .ok (.imul, 1) := by decide +kernel
theorem dX9_answers_63 : decode cX9_answers 63 = .ok (.iload 4, 2) := by decide +kernel
theorem dX9_answers_65 : decode cX9_answers 65 = .ok (.iadd, 1) := by decide +kernel
theorem dX9_answers_66 : decode cX9_answers 66 = .ok (.istore 7, 2) := by decide +kernel
theorem dX9_answers_68 : decode cX9_answers 68 = .ok (.iconst 0, 1) := by decide +kernel
theorem dX9_answers_69 : decode cX9_answers 69 = .ok (.istore 8, 2) := by decide +kernel
theorem dX9_answers_71 : decode cX9_answers 71 = .ok (.iload 8, 2) := by decide +kernel
theorem dX9_answers_73 : decode cX9_answers 73 = .ok (.iload 5, 2) := by decide +kernel
theorem dX9_answers_75 : decode cX9_answers 75 = .ok (.if_icmp .ge 69, 3) := by decide +kernel
theorem dX9_answers_78 : decode cX9_answers 78 = .ok (.aload_n 0, 1) := by decide +kernel
theorem dX9_answers_79 : decode cX9_answers 79 = .ok (.getfield 86, 3) := by decide +kernel
theorem dX9_answers_82 : decode cX9_answers 82 = .ok (.iload 7, 2) := by decide +kernel
theorem dX9_answers_84 : decode cX9_answers 84 = .ok (.iconst 3, 1) := by decide +kernel
theorem dX9_answers_85 : decode cX9_answers 85 = .ok (.iload 8, 2) := by decide +kernel
theorem dX9_answers_87 : decode cX9_answers 87 = .ok (.imul, 1) := by decide +kernel
theorem dX9_answers_88 : decode cX9_answers 88 = .ok (.iadd, 1) := by decide +kernel
theorem dX9_answers_89 : decode cX9_answers 89 = .ok (.iaload, 1) := by decide +kernel
theorem dX9_answers_90 : decode cX9_answers 90 = .ok (.aload_n 0, 1) := by decide +kernel
theorem dX9_answers_91 : decode cX9_answers 91 = .ok (.getfield 86, 3) := by decide +kernel
theorem dX9_answers_94 : decode cX9_answers 94 = .ok (.iload 7, 2) := by decide +kernel
theorem dX9_answers_96 : decode cX9_answers 96 = .ok (.iconst 3, 1) := by decide +kernel
theorem dX9_answers_97 : decode cX9_answers 97 = .ok (.iload 8, 2) := by decide +kernel
theorem dX9_answers_99 : decode cX9_answers 99 = .ok (.imul, 1) := by decide +kernel
theorem dX9_answers_100 : decode cX9_answers 100 = .ok (.iadd, 1) := by decide +kernel
theorem dX9_answers_101 : decode cX9_answers 101 = .ok (.iconst 1, 1) := by decide +kernel
theorem dX9_answers_102 : decode cX9_answers 102 = .ok (.iadd, 1) := by decide +kernel
theorem dX9_answers_103 : decode cX9_answers 103 = .ok (.iaload, 1) := by decide +kernel
theorem dX9_answers_104 : decode cX9_answers 104 = .ok (.invokestatic 116, 3) := by decide +kernel
theorem dX9_answers_107 : decode cX9_answers 107 = .ok (.ifCond .eq 28, 3) := by decide +kernel
theorem dX9_answers_110 : decode cX9_answers 110 = .ok (.aload_n 0, 1) := by decide +kernel
theorem dX9_answers_111 : decode cX9_answers 111 = .ok (.getfield 86, 3) := by decide +kernel
theorem dX9_answers_114 : decode cX9_answers 114 = .ok (.iload 7, 2) := by decide +kernel
theorem dX9_answers_116 : decode cX9_answers 116 = .ok (.iconst 3, 1) := by decide +kernel
theorem dX9_answers_117 : decode cX9_answers 117 = .ok (.iload 8, 2) := by decide +kernel
theorem dX9_answers_119 : decode cX9_answers 119 = .ok (.imul, 1) := by decide +kernel
theorem dX9_answers_120 : decode cX9_answers 120 = .ok (.iadd, 1) := by decide +kernel
theorem dX9_answers_121 : decode cX9_answers 121 = .ok (.iconst 2, 1) := by decide +kernel
theorem dX9_answers_122 : decode cX9_answers 122 = .ok (.iadd, 1) := by decide +kernel
theorem dX9_answers_123 : decode cX9_answers 123 = .ok (.iaload, 1) := by decide +kernel
theorem dX9_answers_124 : decode cX9_answers 124 = .ok (.i2l, 1) := by decide +kernel
theorem dX9_answers_125 : decode cX9_answers 125 = .ok (.lconst 0, 1) := by decide +kernel
theorem dX9_answers_126 : decode cX9_answers 126 = .ok (.ldc2_w 106, 3) := by decide +kernel
theorem dX9_answers_129 : decode cX9_answers 129 = .ok (.invokestatic 102, 3) := by decide +kernel
theorem dX9_answers_132 : decode cX9_answers 132 = .ok (.ifCond .ne 6, 3) := by decide +kernel
theorem dX9_answers_135 : decode cX9_answers 135 = .ok (.bipush (-2), 2) := by decide +kernel
theorem dX9_answers_137 : decode cX9_answers 137 = .ok (.ireturn, 1) := by decide +kernel
theorem dX9_answers_138 : decode cX9_answers 138 = .ok (.iinc 8 1, 3) := by decide +kernel
theorem dX9_answers_141 : decode cX9_answers 141 = .ok (.goto (-70), 3) := by decide +kernel
theorem dX9_answers_144 : decode cX9_answers 144 = .ok (.aload_n 0, 1) := by decide +kernel
theorem dX9_answers_145 : decode cX9_answers 145 = .ok (.getfield 25, 3) := by decide +kernel
theorem dX9_answers_148 : decode cX9_answers 148 = .ok (.iload_n 1, 1) := by decide +kernel
theorem dX9_answers_149 : decode cX9_answers 149 = .ok (.iaload, 1) := by decide +kernel
theorem dX9_answers_150 : decode cX9_answers 150 = .ok (.iload 5, 2) := by decide +kernel
theorem dX9_answers_152 : decode cX9_answers 152 = .ok (.iadd, 1) := by decide +kernel
theorem dX9_answers_153 : decode cX9_answers 153 = .ok (.bipush 40, 2) := by decide +kernel
theorem dX9_answers_155 : decode cX9_answers 155 = .ok (.if_icmp .le 6, 3) := by decide +kernel
theorem dX9_answers_158 : decode cX9_answers 158 = .ok (.bipush (-3), 2) := by decide +kernel
theorem dX9_answers_160 : decode cX9_answers 160 = .ok (.ireturn, 1) := by decide +kernel
theorem dX9_answers_161 : decode cX9_answers 161 = .ok (.iconst 0, 1) := by decide +kernel
theorem dX9_answers_162 : decode cX9_answers 162 = .ok (.istore 8, 2) := by decide +kernel
theorem dX9_answers_164 : decode cX9_answers 164 = .ok (.iload 8, 2) := by decide +kernel
theorem dX9_answers_166 : decode cX9_answers 166 = .ok (.iload 5, 2) := by decide +kernel
theorem dX9_answers_168 : decode cX9_answers 168 = .ok (.if_icmp .ge 54, 3) := by decide +kernel
theorem dX9_answers_171 : decode cX9_answers 171 = .ok (.aload_n 0, 1) := by decide +kernel
theorem dX9_answers_172 : decode cX9_answers 172 = .ok (.iload_n 1, 1) := by decide +kernel
theorem dX9_answers_173 : decode cX9_answers 173 = .ok (.aload_n 0, 1) := by decide +kernel
theorem dX9_answers_174 : decode cX9_answers 174 = .ok (.getfield 86, 3) := by decide +kernel
theorem dX9_answers_177 : decode cX9_answers 177 = .ok (.iload 7, 2) := by decide +kernel
theorem dX9_answers_179 : decode cX9_answers 179 = .ok (.iconst 3, 1) := by decide +kernel
theorem dX9_answers_180 : decode cX9_answers 180 = .ok (.iload 8, 2) := by decide +kernel
theorem dX9_answers_182 : decode cX9_answers 182 = .ok (.imul, 1) := by decide +kernel
theorem dX9_answers_183 : decode cX9_answers 183 = .ok (.iadd, 1) := by decide +kernel
theorem dX9_answers_184 : decode cX9_answers 184 = .ok (.iaload, 1) := by decide +kernel
theorem dX9_answers_185 : decode cX9_answers 185 = .ok (.aload_n 0, 1) := by decide +kernel
theorem dX9_answers_186 : decode cX9_answers 186 = .ok (.getfield 86, 3) := by decide +kernel
theorem dX9_answers_189 : decode cX9_answers 189 = .ok (.iload 7, 2) := by decide +kernel
theorem dX9_answers_191 : decode cX9_answers 191 = .ok (.iconst 3, 1) := by decide +kernel
theorem dX9_answers_192 : decode cX9_answers 192 = .ok (.iload 8, 2) := by decide +kernel
theorem dX9_answers_194 : decode cX9_answers 194 = .ok (.imul, 1) := by decide +kernel
theorem dX9_answers_195 : decode cX9_answers 195 = .ok (.iadd, 1) := by decide +kernel
theorem dX9_answers_196 : decode cX9_answers 196 = .ok (.iconst 1, 1) := by decide +kernel
theorem dX9_answers_197 : decode cX9_answers 197 = .ok (.iadd, 1) := by decide +kernel
theorem dX9_answers_198 : decode cX9_answers 198 = .ok (.iaload, 1) := by decide +kernel
theorem dX9_answers_199 : decode cX9_answers 199 = .ok (.aload_n 0, 1) := by decide +kernel
theorem dX9_answers_200 : decode cX9_answers 200 = .ok (.getfield 86, 3) := by decide +kernel
theorem dX9_answers_203 : decode cX9_answers 203 = .ok (.iload 7, 2) := by decide +kernel
theorem dX9_answers_205 : decode cX9_answers 205 = .ok (.iconst 3, 1) := by decide +kernel
theorem dX9_answers_206 : decode cX9_answers 206 = .ok (.iload 8, 2) := by decide +kernel
theorem dX9_answers_208 : decode cX9_answers 208 = .ok (.imul, 1) := by decide +kernel
theorem dX9_answers_209 : decode cX9_answers 209 = .ok (.iadd, 1) := by decide +kernel
theorem dX9_answers_210 : decode cX9_answers 210 = .ok (.iconst 2, 1) := by decide +kernel
theorem dX9_answers_211 : decode cX9_answers 211 = .ok (.iadd, 1) := by decide +kernel
theorem dX9_answers_212 : decode cX9_answers 212 = .ok (.iaload, 1) := by decide +kernel
theorem dX9_answers_213 : decode cX9_answers 213 = .ok (.invokevirtual 154, 3) := by decide +kernel
theorem dX9_answers_216 : decode cX9_answers 216 = .ok (.iinc 8 1, 3) := by decide +kernel
theorem dX9_answers_219 : decode cX9_answers 219 = .ok (.goto (-55), 3) := by decide +kernel
theorem dX9_answers_222 : decode cX9_answers 222 = .ok (.aload_n 0, 1) := by decide +kernel
theorem dX9_answers_223 : decode cX9_answers 223 = .ok (.getfield 25, 3) := by decide +kernel
theorem dX9_answers_226 : decode cX9_answers 226 = .ok (.iload_n 1, 1) := by decide +kernel
theorem dX9_answers_227 : decode cX9_answers 227 = .ok (.iaload, 1) := by decide +kernel
theorem dX9_answers_228 : decode cX9_answers 228 = .ok (.ireturn, 1) := by decide +kernel
set_option maxRecDepth 20000 in
theorem ggX9_aside_X9_isLearner : GoodIn wsX9_aside wsX9_isLearner := goodIn_r _ [7, 8, 9, 10, 6, 11, 12, 13, 14, 15, 16, 17, 18, 19, 20, 21, 22, 23, 24, 25, 26, 27, 28, 29, 30, 31, 32, 33, 34, 35, 36, 37, 38, 39, 40, 41, 42, 43, 44, 45, 46, 47, 48] (by decide +kernel) (by decide +kernel)
set_option maxRecDepth 20000 in
theorem gX9_aside_X9_isLearner : GoodIn wsX9_aside (wsV RX9 151 RX9 yX9_isLearner wsX9_isLearner) := goodIn_app (goodIn_of _ (by decide +kernel)) ggX9_aside_X9_isLearner
set_option maxRecDepth 20000 in
theorem ggX9_aside_X9_in : GoodIn wsX9_aside wsX9_in := goodIn_r _ [11] (by decide +kernel) (by decide +kernel)
set_option maxRecDepth 20000 in
theorem gX9_aside_X9_in : GoodIn wsX9_aside (va_wsS RX9 102 yX9_in wsX9_in) := goodIn_app (goodIn_of _ (by decide +kernel)) ggX9_aside_X9_in
theorem dX9_aside_0 : decode cX9_aside 0 = .ok (.aload_n 0, 1) := by decide +kernel
theorem dX9_aside_1 : decode cX9_aside 1 = .ok (.iload_n 1, 1) := by decide +kernel
theorem dX9_aside_2 : decode cX9_aside 2 = .ok (.invokevirtual 151, 3) := by decide +kernel
theorem dX9_aside_5 : decode cX9_aside 5 = .ok (.ifCond .eq 21, 3) := by decide +kernel
theorem dX9_aside_8 : decode cX9_aside 8 = .ok (.iload_n 2, 1) := by decide +kernel
theorem dX9_aside_9 : decode cX9_aside 9 = .ok (.i2l, 1) := by decide +kernel
theorem dX9_aside_10 : decode cX9_aside 10 = .ok (.lconst 0, 1) := by decide +kernel
theorem dX9_aside_11 : decode cX9_aside 11 = .ok (.aload_n 0, 1) := by decide +kernel
theorem dX9_aside_12 : decode cX9_aside 12 = .ok (.getfield 25, 3) := by decide +kernel
theorem dX9_aside_15 : decode cX9_aside 15 = .ok (.iload_n 1, 1) := by decide +kernel
theorem dX9_aside_16 : decode cX9_aside 16 = .ok (.iaload, 1) := by decide +kernel
theorem dX9_aside_17 : decode cX9_aside 17 = .ok (.iconst 1, 1) := by decide +kernel
theorem dX9_aside_18 : decode cX9_aside 18 = .ok (.isub, 1) := by decide +kernel
theorem dX9_aside_19 : decode cX9_aside 19 = .ok (.i2l, 1) := by decide +kernel
theorem dX9_aside_20 : decode cX9_aside 20 = .ok (.invokestatic 102, 3) := by decide +kernel
theorem dX9_aside_23 : decode cX9_aside 23 = .ok (.ifCond .ne 5, 3) := by decide +kernel
theorem dX9_aside_26 : decode cX9_aside 26 = .ok (.iconst (-1), 1) := by decide +kernel
theorem dX9_aside_27 : decode cX9_aside 27 = .ok (.ireturn, 1) := by decide +kernel
theorem dX9_aside_28 : decode cX9_aside 28 = .ok (.aload_n 0, 1) := by decide +kernel
theorem dX9_aside_29 : decode cX9_aside 29 = .ok (.getfield 37, 3) := by decide +kernel
theorem dX9_aside_32 : decode cX9_aside 32 = .ok (.bipush 40, 2) := by decide +kernel
theorem dX9_aside_34 : decode cX9_aside 34 = .ok (.iload_n 1, 1) := by decide +kernel
theorem dX9_aside_35 : decode cX9_aside 35 = .ok (.imul, 1) := by decide +kernel
theorem dX9_aside_36 : decode cX9_aside 36 = .ok (.iload_n 2, 1) := by decide +kernel
theorem dX9_aside_37 : decode cX9_aside 37 = .ok (.iadd, 1) := by decide +kernel
theorem dX9_aside_38 : decode cX9_aside 38 = .ok (.baload, 1) := by decide +kernel
theorem dX9_aside_39 : decode cX9_aside 39 = .ok (.istore 4, 2) := by decide +kernel
theorem dX9_aside_41 : decode cX9_aside 41 = .ok (.aload_n 0, 1) := by decide +kernel
theorem dX9_aside_42 : decode cX9_aside 42 = .ok (.getfield 37, 3) := by decide +kernel
theorem dX9_aside_45 : decode cX9_aside 45 = .ok (.bipush 40, 2) := by decide +kernel
theorem dX9_aside_47 : decode cX9_aside 47 = .ok (.iload_n 1, 1) := by decide +kernel
theorem dX9_aside_48 : decode cX9_aside 48 = .ok (.imul, 1) := by decide +kernel
theorem dX9_aside_49 : decode cX9_aside 49 = .ok (.iload_n 2, 1) := by decide +kernel
theorem dX9_aside_50 : decode cX9_aside 50 = .ok (.iadd, 1) := by decide +kernel
theorem dX9_aside_51 : decode cX9_aside 51 = .ok (.iload_n 3, 1) := by decide +kernel
theorem dX9_aside_52 : decode cX9_aside 52 = .ok (.bastore, 1) := by decide +kernel
theorem dX9_aside_53 : decode cX9_aside 53 = .ok (.iload 4, 2) := by decide +kernel
theorem dX9_aside_55 : decode cX9_aside 55 = .ok (.ifCond .eq 7, 3) := by decide +kernel
theorem dX9_aside_58 : decode cX9_aside 58 = .ok (.iconst 1, 1) := by decide +kernel
theorem dX9_aside_59 : decode cX9_aside 59 = .ok (.goto 4, 3) := by decide +kernel
theorem dX9_aside_62 : decode cX9_aside 62 = .ok (.iconst 0, 1) := by decide +kernel
theorem dX9_aside_63 : decode cX9_aside 63 = .ok (.ireturn, 1) := by decide +kernel
set_option maxRecDepth 20000 in
theorem ggX9_set_X9_in : GoodIn wsX9_set wsX9_in := goodIn_r _ [9] (by decide +kernel) (by decide +kernel)
set_option maxRecDepth 20000 in
theorem gX9_set_X9_in : GoodIn wsX9_set (va_wsS RX9 102 yX9_in wsX9_in) := goodIn_app (goodIn_of _ (by decide +kernel)) ggX9_set_X9_in
theorem dX9_set_0 : decode cX9_set 0 = .ok (.iload_n 1, 1) := by decide +kernel
theorem dX9_set_1 : decode cX9_set 1 = .ok (.i2l, 1) := by decide +kernel
theorem dX9_set_2 : decode cX9_set 2 = .ok (.lconst 0, 1) := by decide +kernel
theorem dX9_set_3 : decode cX9_set 3 = .ok (.ldc2_w 160, 3) := by decide +kernel
theorem dX9_set_6 : decode cX9_set 6 = .ok (.invokestatic 102, 3) := by decide +kernel
theorem dX9_set_9 : decode cX9_set 9 = .ok (.ifCond .eq 46, 3) := by decide +kernel
theorem dX9_set_12 : decode cX9_set 12 = .ok (.iload_n 2, 1) := by decide +kernel
theorem dX9_set_13 : decode cX9_set 13 = .ok (.i2l, 1) := by decide +kernel
theorem dX9_set_14 : decode cX9_set 14 = .ok (.iload_n 1, 1) := by decide +kernel
theorem dX9_set_15 : decode cX9_set 15 = .ok (.iconst 4, 1) := by decide +kernel
theorem dX9_set_16 : decode cX9_set 16 = .ok (.if_icmp .ne 7, 3) := by decide +kernel
theorem dX9_set_19 : decode cX9_set 19 = .ok (.lconst 1, 1) := by decide +kernel
theorem dX9_set_20 : decode cX9_set 20 = .ok (.goto 4, 3) := by decide +kernel
theorem dX9_set_23 : decode cX9_set 23 = .ok (.lconst 0, 1) := by decide +kernel
theorem dX9_set_24 : decode cX9_set 24 = .ok (.iload_n 1, 1) := by decide +kernel
theorem dX9_set_25 : decode cX9_set 25 = .ok (.iconst 3, 1) := by decide +kernel
theorem dX9_set_26 : decode cX9_set 26 = .ok (.if_icmp .ge 9, 3) := by decide +kernel
theorem dX9_set_29 : decode cX9_set 29 = .ok (.ldc2_w 162, 3) := by decide +kernel
theorem dX9_set_32 : decode cX9_set 32 = .ok (.goto 17, 3) := by decide +kernel
theorem dX9_set_35 : decode cX9_set 35 = .ok (.iload_n 1, 1) := by decide +kernel
theorem dX9_set_36 : decode cX9_set 36 = .ok (.iconst 3, 1) := by decide +kernel
theorem dX9_set_37 : decode cX9_set 37 = .ok (.if_icmp .ne 9, 3) := by decide +kernel
theorem dX9_set_40 : decode cX9_set 40 = .ok (.ldc2_w 106, 3) := by decide +kernel
theorem dX9_set_43 : decode cX9_set 43 = .ok (.goto 6, 3) := by decide +kernel
theorem dX9_set_46 : decode cX9_set 46 = .ok (.ldc2_w 164, 3) := by decide +kernel
theorem dX9_set_49 : decode cX9_set 49 = .ok (.invokestatic 102, 3) := by decide +kernel
theorem dX9_set_52 : decode cX9_set 52 = .ok (.ifCond .ne 5, 3) := by decide +kernel
theorem dX9_set_55 : decode cX9_set 55 = .ok (.iconst (-1), 1) := by decide +kernel
theorem dX9_set_56 : decode cX9_set 56 = .ok (.ireturn, 1) := by decide +kernel
theorem dX9_set_57 : decode cX9_set 57 = .ok (.aload_n 0, 1) := by decide +kernel
theorem dX9_set_58 : decode cX9_set 58 = .ok (.getfield 41, 3) := by decide +kernel
theorem dX9_set_61 : decode cX9_set 61 = .ok (.iload_n 1, 1) := by decide +kernel
theorem dX9_set_62 : decode cX9_set 62 = .ok (.iaload, 1) := by decide +kernel
theorem dX9_set_63 : decode cX9_set 63 = .ok (.istore_n 3, 1) := by decide +kernel
theorem dX9_set_64 : decode cX9_set 64 = .ok (.aload_n 0, 1) := by decide +kernel
theorem dX9_set_65 : decode cX9_set 65 = .ok (.getfield 41, 3) := by decide +kernel
theorem dX9_set_68 : decode cX9_set 68 = .ok (.iload_n 1, 1) := by decide +kernel
theorem dX9_set_69 : decode cX9_set 69 = .ok (.iload_n 2, 1) := by decide +kernel
theorem dX9_set_70 : decode cX9_set 70 = .ok (.iastore, 1) := by decide +kernel
theorem dX9_set_71 : decode cX9_set 71 = .ok (.iload_n 3, 1) := by decide +kernel
theorem dX9_set_72 : decode cX9_set 72 = .ok (.ireturn, 1) := by decide +kernel
set_option maxRecDepth 20000 in
theorem ggX9_pointsOf_X9_sizeOf : GoodIn wsX9_pointsOf wsX9_sizeOf := goodIn_r _ [10] (by decide +kernel) (by decide +kernel)
set_option maxRecDepth 20000 in
theorem gX9_pointsOf_X9_sizeOf : GoodIn wsX9_pointsOf (va_wsS RX9 92 yX9_sizeOf wsX9_sizeOf) := goodIn_app (goodIn_of _ (by decide +kernel)) ggX9_pointsOf_X9_sizeOf
set_option maxRecDepth 20000 in
theorem ggX9_pointsOf_X9_workOf : GoodIn wsX9_pointsOf wsX9_workOf := goodIn_r _ [14, 15, 16, 17, 18, 19, 9, 20, 21, 22, 23, 24, 25, 26, 27, 28, 29, 30, 31, 32, 33, 34, 35, 36, 37, 38, 39, 40, 41, 42, 43, 44, 45, 46, 47, 48, 49, 50, 51, 52, 53, 54, 55, 56, 57, 58, 59, 60, 61] (by decide +kernel) (by decide +kernel)
set_option maxRecDepth 20000 in
theorem gX9_pointsOf_X9_workOf : GoodIn wsX9_pointsOf (wsV RX9 124 RX9 yX9_workOf wsX9_workOf) := goodIn_app (goodIn_of _ (by decide +kernel)) ggX9_pointsOf_X9_workOf
theorem dX9_pointsOf_0 : decode cX9_pointsOf 0 = .ok (.aload_n 0, 1) := by decide +kernel
theorem dX9_pointsOf_1 : decode cX9_pointsOf 1 = .ok (.getfield 41, 3) := by decide +kernel
theorem dX9_pointsOf_4 : decode cX9_pointsOf 4 = .ok (.iconst 2, 1) := by decide +kernel
theorem dX9_pointsOf_5 : decode cX9_pointsOf 5 = .ok (.iaload, 1) := by decide +kernel
theorem dX9_pointsOf_6 : decode cX9_pointsOf 6 = .ok (.ineg, 1) := by decide +kernel
theorem dX9_pointsOf_7 : decode cX9_pointsOf 7 = .ok (.iload_n 2, 1) := by decide +kernel
theorem dX9_pointsOf_8 : decode cX9_pointsOf 8 = .ok (.invokestatic 92, 3) := by decide +kernel
theorem dX9_pointsOf_11 : decode cX9_pointsOf 11 = .ok (.imul, 1) := by decide +kernel
theorem dX9_pointsOf_12 : decode cX9_pointsOf 12 = .ok (.istore_n 3, 1) := by decide +kernel
theorem dX9_pointsOf_13 : decode cX9_pointsOf 13 = .ok (.bipush 40, 2) := by decide +kernel
theorem dX9_pointsOf_15 : decode cX9_pointsOf 15 = .ok (.iload_n 1, 1) := by decide +kernel
theorem dX9_pointsOf_16 : decode cX9_pointsOf 16 = .ok (.imul, 1) := by decide +kernel
theorem dX9_pointsOf_17 : decode cX9_pointsOf 17 = .ok (.istore 4, 2) := by decide +kernel
theorem dX9_pointsOf_19 : decode cX9_pointsOf 19 = .ok (.iload 4, 2) := by decide +kernel
theorem dX9_pointsOf_21 : decode cX9_pointsOf 21 = .ok (.bipush 40, 2) := by decide +kernel
theorem dX9_pointsOf_23 : decode cX9_pointsOf 23 = .ok (.iload_n 1, 1) := by decide +kernel
theorem dX9_pointsOf_24 : decode cX9_pointsOf 24 = .ok (.imul, 1) := by decide +kernel
theorem dX9_pointsOf_25 : decode cX9_pointsOf 25 = .ok (.aload_n 0, 1) := by decide +kernel
theorem dX9_pointsOf_26 : decode cX9_pointsOf 26 = .ok (.getfield 25, 3) := by decide +kernel
theorem dX9_pointsOf_29 : decode cX9_pointsOf 29 = .ok (.iload_n 1, 1) := by decide +kernel
theorem dX9_pointsOf_30 : decode cX9_pointsOf 30 = .ok (.iaload, 1) := by decide +kernel
theorem dX9_pointsOf_31 : decode cX9_pointsOf 31 = .ok (.iadd, 1) := by decide +kernel
theorem dX9_pointsOf_32 : decode cX9_pointsOf 32 = .ok (.if_icmp .ge 83, 3) := by decide +kernel
theorem dX9_pointsOf_35 : decode cX9_pointsOf 35 = .ok (.aload_n 0, 1) := by decide +kernel
theorem dX9_pointsOf_36 : decode cX9_pointsOf 36 = .ok (.aload_n 0, 1) := by decide +kernel
theorem dX9_pointsOf_37 : decode cX9_pointsOf 37 = .ok (.getfield 28, 3) := by decide +kernel
theorem dX9_pointsOf_40 : decode cX9_pointsOf 40 = .ok (.iload 4, 2) := by decide +kernel
theorem dX9_pointsOf_42 : decode cX9_pointsOf 42 = .ok (.iaload, 1) := by decide +kernel
theorem dX9_pointsOf_43 : decode cX9_pointsOf 43 = .ok (.aload_n 0, 1) := by decide +kernel
theorem dX9_pointsOf_44 : decode cX9_pointsOf 44 = .ok (.getfield 31, 3) := by decide +kernel
theorem dX9_pointsOf_47 : decode cX9_pointsOf 47 = .ok (.iload 4, 2) := by decide +kernel
theorem dX9_pointsOf_49 : decode cX9_pointsOf 49 = .ok (.iaload, 1) := by decide +kernel
theorem dX9_pointsOf_50 : decode cX9_pointsOf 50 = .ok (.iload_n 2, 1) := by decide +kernel
theorem dX9_pointsOf_51 : decode cX9_pointsOf 51 = .ok (.invokevirtual 124, 3) := by decide +kernel
theorem dX9_pointsOf_54 : decode cX9_pointsOf 54 = .ok (.aload_n 0, 1) := by decide +kernel
theorem dX9_pointsOf_55 : decode cX9_pointsOf 55 = .ok (.getfield 34, 3) := by decide +kernel
theorem dX9_pointsOf_58 : decode cX9_pointsOf 58 = .ok (.iload 4, 2) := by decide +kernel
theorem dX9_pointsOf_60 : decode cX9_pointsOf 60 = .ok (.iaload, 1) := by decide +kernel
theorem dX9_pointsOf_61 : decode cX9_pointsOf 61 = .ok (.if_icmp .ne 7, 3) := by decide +kernel
theorem dX9_pointsOf_64 : decode cX9_pointsOf 64 = .ok (.iconst 1, 1) := by decide +kernel
theorem dX9_pointsOf_65 : decode cX9_pointsOf 65 = .ok (.goto 4, 3) := by decide +kernel
theorem dX9_pointsOf_68 : decode cX9_pointsOf 68 = .ok (.iconst 0, 1) := by decide +kernel
theorem dX9_pointsOf_69 : decode cX9_pointsOf 69 = .ok (.istore 5, 2) := by decide +kernel
theorem dX9_pointsOf_71 : decode cX9_pointsOf 71 = .ok (.iload_n 3, 1) := by decide +kernel
theorem dX9_pointsOf_72 : decode cX9_pointsOf 72 = .ok (.aload_n 0, 1) := by decide +kernel
theorem dX9_pointsOf_73 : decode cX9_pointsOf 73 = .ok (.getfield 37, 3) := by decide +kernel
theorem dX9_pointsOf_76 : decode cX9_pointsOf 76 = .ok (.iload 4, 2) := by decide +kernel
theorem dX9_pointsOf_78 : decode cX9_pointsOf 78 = .ok (.baload, 1) := by decide +kernel
theorem dX9_pointsOf_79 : decode cX9_pointsOf 79 = .ok (.ifCond .eq 7, 3) := by decide +kernel
theorem dX9_pointsOf_82 : decode cX9_pointsOf 82 = .ok (.iconst 0, 1) := by decide +kernel
theorem dX9_pointsOf_83 : decode cX9_pointsOf 83 = .ok (.goto 24, 3) := by decide +kernel
theorem dX9_pointsOf_86 : decode cX9_pointsOf 86 = .ok (.iload 5, 2) := by decide +kernel
theorem dX9_pointsOf_88 : decode cX9_pointsOf 88 = .ok (.ifCond .eq 12, 3) := by decide +kernel
theorem dX9_pointsOf_91 : decode cX9_pointsOf 91 = .ok (.aload_n 0, 1) := by decide +kernel
theorem dX9_pointsOf_92 : decode cX9_pointsOf 92 = .ok (.getfield 41, 3) := by decide +kernel
theorem dX9_pointsOf_95 : decode cX9_pointsOf 95 = .ok (.iconst 0, 1) := by decide +kernel
theorem dX9_pointsOf_96 : decode cX9_pointsOf 96 = .ok (.iaload, 1) := by decide +kernel
theorem dX9_pointsOf_97 : decode cX9_pointsOf 97 = .ok (.goto 10, 3) := by decide +kernel
theorem dX9_pointsOf_100 : decode cX9_pointsOf 100 = .ok (.aload_n 0, 1) := by decide +kernel
theorem dX9_pointsOf_101 : decode cX9_pointsOf 101 = .ok (.getfield 41, 3) := by decide +kernel
theorem dX9_pointsOf_104 : decode cX9_pointsOf 104 = .ok (.iconst 1, 1) := by decide +kernel
theorem dX9_pointsOf_105 : decode cX9_pointsOf 105 = .ok (.iaload, 1) := by decide +kernel
theorem dX9_pointsOf_106 : decode cX9_pointsOf 106 = .ok (.ineg, 1) := by decide +kernel
theorem dX9_pointsOf_107 : decode cX9_pointsOf 107 = .ok (.iadd, 1) := by decide +kernel
theorem dX9_pointsOf_108 : decode cX9_pointsOf 108 = .ok (.istore_n 3, 1) := by decide +kernel
theorem dX9_pointsOf_109 : decode cX9_pointsOf 109 = .ok (.iinc 4 1, 3) := by decide +kernel
theorem dX9_pointsOf_112 : decode cX9_pointsOf 112 = .ok (.goto (-93), 3) := by decide +kernel
theorem dX9_pointsOf_115 : decode cX9_pointsOf 115 = .ok (.iload_n 3, 1) := by decide +kernel
theorem dX9_pointsOf_116 : decode cX9_pointsOf 116 = .ok (.ireturn, 1) := by decide +kernel
set_option maxRecDepth 20000 in
theorem ggX9_points_X9_isLearner : GoodIn wsX9_points wsX9_isLearner := goodIn_r _ [6, 7, 8, 9, 5, 10, 42, 43, 44, 45, 46, 47, 48, 49, 50, 51, 52, 53, 54, 55, 56, 57, 58, 59, 60, 61, 62, 63, 64, 65, 66, 67, 68, 69, 70, 71, 72, 73, 74, 75, 76, 77, 78] (by decide +kernel) (by decide +kernel)
set_option maxRecDepth 20000 in
theorem gX9_points_X9_isLearner : GoodIn wsX9_points (wsV RX9 151 RX9 yX9_isLearner wsX9_isLearner) := goodIn_app (goodIn_of _ (by decide +kernel)) ggX9_points_X9_isLearner
set_option maxRecDepth 20000 in
theorem ggX9_points_X9_isSet : GoodIn wsX9_points wsX9_isSet := goodIn_r _ [13, 14, 8, 9, 5, 10] (by decide +kernel) (by decide +kernel)
set_option maxRecDepth 20000 in
theorem gX9_points_X9_isSet : GoodIn wsX9_points (va_wsS RX9 120 yX9_isSet wsX9_isSet) := goodIn_app (goodIn_of _ (by decide +kernel)) ggX9_points_X9_isSet
set_option maxRecDepth 20000 in
theorem ggX9_points_X9_sizeOf : GoodIn wsX9_points wsX9_sizeOf := goodIn_r _ [17] (by decide +kernel) (by decide +kernel)
set_option maxRecDepth 20000 in
theorem gX9_points_X9_sizeOf : GoodIn wsX9_points (va_wsS RX9 92 yX9_sizeOf wsX9_sizeOf) := goodIn_app (goodIn_of _ (by decide +kernel)) ggX9_points_X9_sizeOf
set_option maxRecDepth 20000 in
theorem ggX9_points_X9_pointsOf : GoodIn wsX9_points wsX9_pointsOf := goodIn_r _ [21, 22, 23, 24, 25, 26, 27, 15, 16, 5, 17, 28, 29, 30, 31, 32, 33, 34, 35, 36, 37, 38, 39, 40, 41, 42, 43, 44, 45, 46, 47, 48, 49, 50, 51, 52, 53, 54, 55, 56, 57, 58, 59, 60, 61, 62, 63, 64, 65, 66, 67, 68, 69, 70, 71, 72, 73, 74, 75, 76, 77, 78] (by decide +kernel) (by decide +kernel)
set_option maxRecDepth 20000 in
theorem gX9_points_X9_pointsOf : GoodIn wsX9_points (wsV RX9 166 RX9 yX9_pointsOf wsX9_pointsOf) := goodIn_app (goodIn_of _ (by decide +kernel)) ggX9_points_X9_pointsOf
theorem dX9_points_0 : decode cX9_points 0 = .ok (.aload_n 0, 1) := by decide +kernel
theorem dX9_points_1 : decode cX9_points 1 = .ok (.iload_n 1, 1) := by decide +kernel
theorem dX9_points_2 : decode cX9_points 2 = .ok (.invokevirtual 151, 3) := by decide +kernel
theorem dX9_points_5 : decode cX9_points 5 = .ok (.ifCond .eq 27, 3) := by decide +kernel
theorem dX9_points_8 : decode cX9_points 8 = .ok (.iload_n 2, 1) := by decide +kernel
theorem dX9_points_9 : decode cX9_points 9 = .ok (.invokestatic 120, 3) := by decide +kernel
theorem dX9_points_12 : decode cX9_points 12 = .ok (.ifCond .eq 20, 3) := by decide +kernel
theorem dX9_points_15 : decode cX9_points 15 = .ok (.iload_n 2, 1) := by decide +kernel
theorem dX9_points_16 : decode cX9_points 16 = .ok (.invokestatic 92, 3) := by decide +kernel
theorem dX9_points_19 : decode cX9_points 19 = .ok (.iconst 3, 1) := by decide +kernel
theorem dX9_points_20 : decode cX9_points 20 = .ok (.if_icmp .gt 12, 3) := by decide +kernel
theorem dX9_points_23 : decode cX9_points 23 = .ok (.aload_n 0, 1) := by decide +kernel
theorem dX9_points_24 : decode cX9_points 24 = .ok (.iload_n 1, 1) := by decide +kernel
theorem dX9_points_25 : decode cX9_points 25 = .ok (.iload_n 2, 1) := by decide +kernel
theorem dX9_points_26 : decode cX9_points 26 = .ok (.invokevirtual 166, 3) := by decide +kernel
theorem dX9_points_29 : decode cX9_points 29 = .ok (.goto 5, 3) := by decide +kernel
theorem dX9_points_32 : decode cX9_points 32 = .ok (.ldc 169, 2) := by decide +kernel
theorem dX9_points_34 : decode cX9_points 34 = .ok (.ireturn, 1) := by decide +kernel
set_option maxRecDepth 20000 in
theorem ggX9_bestOf_X9_pointsOf : GoodIn wsX9_bestOf wsX9_pointsOf := goodIn_r _ [8, 9, 10, 11, 12, 13, 14, 15, 16, 7, 17, 18, 19, 20, 21, 22, 23, 24, 25, 26, 27, 28, 29, 30, 31, 32, 33, 34, 35, 36, 37, 38, 39, 40, 41, 42, 43, 44, 45, 46, 47, 48, 49, 50, 51, 52, 53, 54, 55, 56, 57, 58, 59, 60, 61, 62, 63, 64, 65, 66, 67, 68] (by decide +kernel) (by decide +kernel)
set_option maxRecDepth 20000 in
theorem gX9_bestOf_X9_pointsOf : GoodIn wsX9_bestOf (wsV RX9 166 RX9 yX9_pointsOf wsX9_pointsOf) := goodIn_app (goodIn_of _ (by decide +kernel)) ggX9_bestOf_X9_pointsOf
theorem dX9_bestOf_0 : decode cX9_bestOf 0 = .ok (.iconst 0, 1) := by decide +kernel
theorem dX9_bestOf_1 : decode cX9_bestOf 1 = .ok (.istore_n 2, 1) := by decide +kernel
theorem dX9_bestOf_2 : decode cX9_bestOf 2 = .ok (.iconst 0, 1) := by decide +kernel
theorem dX9_bestOf_3 : decode cX9_bestOf 3 = .ok (.istore_n 3, 1) := by decide +kernel
theorem dX9_bestOf_4 : decode cX9_bestOf 4 = .ok (.iconst 0, 1) := by decide +kernel
theorem dX9_bestOf_5 : decode cX9_bestOf 5 = .ok (.istore 4, 2) := by decide +kernel
theorem dX9_bestOf_7 : decode cX9_bestOf 7 = .ok (.iconst 0, 1) := by decide +kernel
theorem dX9_bestOf_8 : decode cX9_bestOf 8 = .ok (.istore 5, 2) := by decide +kernel
theorem dX9_bestOf_10 : decode cX9_bestOf 10 = .ok (.iload 5, 2) := by decide +kernel
theorem dX9_bestOf_12 : decode cX9_bestOf 12 = .ok (.bipush 93, 2) := by decide +kernel
theorem dX9_bestOf_14 : decode cX9_bestOf 14 = .ok (.if_icmp .ge 105, 3) := by decide +kernel
theorem dX9_bestOf_17 : decode cX9_bestOf 17 = .ok (.aload_n 0, 1) := by decide +kernel
theorem dX9_bestOf_18 : decode cX9_bestOf 18 = .ok (.iload_n 1, 1) := by decide +kernel
theorem dX9_bestOf_19 : decode cX9_bestOf 19 = .ok (.aload_n 0, 1) := by decide +kernel
theorem dX9_bestOf_20 : decode cX9_bestOf 20 = .ok (.getfield 7, 3) := by decide +kernel
theorem dX9_bestOf_23 : decode cX9_bestOf 23 = .ok (.iload 5, 2) := by decide +kernel
theorem dX9_bestOf_25 : decode cX9_bestOf 25 = .ok (.iaload, 1) := by decide +kernel
theorem dX9_bestOf_26 : decode cX9_bestOf 26 = .ok (.invokevirtual 166, 3) := by decide +kernel
theorem dX9_bestOf_29 : decode cX9_bestOf 29 = .ok (.istore 6, 2) := by decide +kernel
theorem dX9_bestOf_31 : decode cX9_bestOf 31 = .ok (.iload 5, 2) := by decide +kernel
theorem dX9_bestOf_33 : decode cX9_bestOf 33 = .ok (.ifCond .eq 9, 3) := by decide +kernel
theorem dX9_bestOf_36 : decode cX9_bestOf 36 = .ok (.iload 6, 2) := by decide +kernel
theorem dX9_bestOf_38 : decode cX9_bestOf 38 = .ok (.iload_n 3, 1) := by decide +kernel
theorem dX9_bestOf_39 : decode cX9_bestOf 39 = .ok (.if_icmp .le 7, 3) := by decide +kernel
theorem dX9_bestOf_42 : decode cX9_bestOf 42 = .ok (.iconst 1, 1) := by decide +kernel
theorem dX9_bestOf_43 : decode cX9_bestOf 43 = .ok (.goto 4, 3) := by decide +kernel
theorem dX9_bestOf_46 : decode cX9_bestOf 46 = .ok (.iconst 0, 1) := by decide +kernel
theorem dX9_bestOf_47 : decode cX9_bestOf 47 = .ok (.istore 7, 2) := by decide +kernel
theorem dX9_bestOf_49 : decode cX9_bestOf 49 = .ok (.iload 5, 2) := by decide +kernel
theorem dX9_bestOf_51 : decode cX9_bestOf 51 = .ok (.ifCond .ne 8, 3) := by decide +kernel
theorem dX9_bestOf_54 : decode cX9_bestOf 54 = .ok (.ldc 170, 2) := by decide +kernel
theorem dX9_bestOf_56 : decode cX9_bestOf 56 = .ok (.goto 26, 3) := by decide +kernel
theorem dX9_bestOf_59 : decode cX9_bestOf 59 = .ok (.iload 7, 2) := by decide +kernel
theorem dX9_bestOf_61 : decode cX9_bestOf 61 = .ok (.ifCond .eq 7, 3) := by decide +kernel
theorem dX9_bestOf_64 : decode cX9_bestOf 64 = .ok (.iload_n 3, 1) := by decide +kernel
theorem dX9_bestOf_65 : decode cX9_bestOf 65 = .ok (.goto 17, 3) := by decide +kernel
theorem dX9_bestOf_68 : decode cX9_bestOf 68 = .ok (.iload 6, 2) := by decide +kernel
theorem dX9_bestOf_70 : decode cX9_bestOf 70 = .ok (.iload 4, 2) := by decide +kernel
theorem dX9_bestOf_72 : decode cX9_bestOf 72 = .ok (.if_icmp .le 8, 3) := by decide +kernel
theorem dX9_bestOf_75 : decode cX9_bestOf 75 = .ok (.iload 6, 2) := by decide +kernel
theorem dX9_bestOf_77 : decode cX9_bestOf 77 = .ok (.goto 5, 3) := by decide +kernel
theorem dX9_bestOf_80 : decode cX9_bestOf 80 = .ok (.iload 4, 2) := by decide +kernel
theorem dX9_bestOf_82 : decode cX9_bestOf 82 = .ok (.istore 4, 2) := by decide +kernel
theorem dX9_bestOf_84 : decode cX9_bestOf 84 = .ok (.iload 7, 2) := by decide +kernel
theorem dX9_bestOf_86 : decode cX9_bestOf 86 = .ok (.ifCond .eq 13, 3) := by decide +kernel
theorem dX9_bestOf_89 : decode cX9_bestOf 89 = .ok (.aload_n 0, 1) := by decide +kernel
theorem dX9_bestOf_90 : decode cX9_bestOf 90 = .ok (.getfield 7, 3) := by decide +kernel
theorem dX9_bestOf_93 : decode cX9_bestOf 93 = .ok (.iload 5, 2) := by decide +kernel
theorem dX9_bestOf_95 : decode cX9_bestOf 95 = .ok (.iaload, 1) := by decide +kernel
theorem dX9_bestOf_96 : decode cX9_bestOf 96 = .ok (.goto 4, 3) := by decide +kernel
theorem dX9_bestOf_99 : decode cX9_bestOf 99 = .ok (.iload_n 2, 1) := by decide +kernel
theorem dX9_bestOf_100 : decode cX9_bestOf 100 = .ok (.istore_n 2, 1) := by decide +kernel
theorem dX9_bestOf_101 : decode cX9_bestOf 101 = .ok (.iload 7, 2) := by decide +kernel
theorem dX9_bestOf_103 : decode cX9_bestOf 103 = .ok (.ifCond .eq 8, 3) := by decide +kernel
theorem dX9_bestOf_106 : decode cX9_bestOf 106 = .ok (.iload 6, 2) := by decide +kernel
theorem dX9_bestOf_108 : decode cX9_bestOf 108 = .ok (.goto 4, 3) := by decide +kernel
theorem dX9_bestOf_111 : decode cX9_bestOf 111 = .ok (.iload_n 3, 1) := by decide +kernel
theorem dX9_bestOf_112 : decode cX9_bestOf 112 = .ok (.istore_n 3, 1) := by decide +kernel
theorem dX9_bestOf_113 : decode cX9_bestOf 113 = .ok (.iinc 5 1, 3) := by decide +kernel
theorem dX9_bestOf_116 : decode cX9_bestOf 116 = .ok (.goto (-106), 3) := by decide +kernel
theorem dX9_bestOf_119 : decode cX9_bestOf 119 = .ok (.aload_n 0, 1) := by decide +kernel
theorem dX9_bestOf_120 : decode cX9_bestOf 120 = .ok (.iload_n 3, 1) := by decide +kernel
theorem dX9_bestOf_121 : decode cX9_bestOf 121 = .ok (.iload 4, 2) := by decide +kernel
theorem dX9_bestOf_123 : decode cX9_bestOf 123 = .ok (.isub, 1) := by decide +kernel
theorem dX9_bestOf_124 : decode cX9_bestOf 124 = .ok (.putfield 171, 3) := by decide +kernel
theorem dX9_bestOf_127 : decode cX9_bestOf 127 = .ok (.iload_n 2, 1) := by decide +kernel
theorem dX9_bestOf_128 : decode cX9_bestOf 128 = .ok (.ireturn, 1) := by decide +kernel
set_option maxRecDepth 20000 in
theorem ggX9_guess_X9_isLearner : GoodIn wsX9_guess wsX9_isLearner := goodIn_r _ [7, 8, 9, 10, 6, 11, 44, 45, 46, 47, 48, 49, 50, 51, 52, 53, 54, 55, 56, 57, 58, 59, 60, 61, 62, 63, 64, 65, 66, 67, 68, 69, 70, 71, 72, 73, 74, 75, 76, 77, 78, 79, 80] (by decide +kernel) (by decide +kernel)
set_option maxRecDepth 20000 in
theorem gX9_guess_X9_isLearner : GoodIn wsX9_guess (wsV RX9 151 RX9 yX9_isLearner wsX9_isLearner) := goodIn_app (goodIn_of _ (by decide +kernel)) ggX9_guess_X9_isLearner
set_option maxRecDepth 20000 in
theorem ggX9_guess_X9_bestOf : GoodIn wsX9_guess wsX9_bestOf := goodIn_r _ [15, 16, 17, 1, 18, 19, 20, 6, 21, 2, 22, 23, 24, 25, 26, 27, 28, 29, 30, 31, 32, 33, 34, 35, 36, 37, 38, 39, 40, 41, 42, 43, 44, 45, 46, 47, 48, 49, 50, 51, 52, 53, 54, 55, 56, 57, 58, 59, 60, 61, 62, 63, 64, 65, 66, 67, 68, 69, 70, 71, 72, 73, 74, 75, 76, 77, 78, 79, 80] (by decide +kernel) (by decide +kernel)
set_option maxRecDepth 20000 in
theorem gX9_guess_X9_bestOf : GoodIn wsX9_guess (wsV RX9 174 RX9 yX9_bestOf wsX9_bestOf) := goodIn_app (goodIn_of _ (by decide +kernel)) ggX9_guess_X9_bestOf
theorem dX9_guess_0 : decode cX9_guess 0 = .ok (.aload_n 0, 1) := by decide +kernel
theorem dX9_guess_1 : decode cX9_guess 1 = .ok (.iload_n 1, 1) := by decide +kernel
theorem dX9_guess_2 : decode cX9_guess 2 = .ok (.invokevirtual 151, 3) := by decide +kernel
theorem dX9_guess_5 : decode cX9_guess 5 = .ok (.ifCond .ne 5, 3) := by decide +kernel
theorem dX9_guess_8 : decode cX9_guess 8 = .ok (.iconst (-1), 1) := by decide +kernel
theorem dX9_guess_9 : decode cX9_guess 9 = .ok (.ireturn, 1) := by decide +kernel
theorem dX9_guess_10 : decode cX9_guess 10 = .ok (.aload_n 0, 1) := by decide +kernel
theorem dX9_guess_11 : decode cX9_guess 11 = .ok (.iload_n 1, 1) := by decide +kernel
theorem dX9_guess_12 : decode cX9_guess 12 = .ok (.invokevirtual 174, 3) := by decide +kernel
theorem dX9_guess_15 : decode cX9_guess 15 = .ok (.istore_n 2, 1) := by decide +kernel
theorem dX9_guess_16 : decode cX9_guess 16 = .ok (.aload_n 0, 1) := by decide +kernel
theorem dX9_guess_17 : decode cX9_guess 17 = .ok (.getfield 171, 3) := by decide +kernel
theorem dX9_guess_20 : decode cX9_guess 20 = .ok (.aload_n 0, 1) := by decide +kernel
theorem dX9_guess_21 : decode cX9_guess 21 = .ok (.getfield 41, 3) := by decide +kernel
theorem dX9_guess_24 : decode cX9_guess 24 = .ok (.iconst 3, 1) := by decide +kernel
theorem dX9_guess_25 : decode cX9_guess 25 = .ok (.iaload, 1) := by decide +kernel
theorem dX9_guess_26 : decode cX9_guess 26 = .ok (.if_icmp .ge 8, 3) := by decide +kernel
theorem dX9_guess_29 : decode cX9_guess 29 = .ok (.bipush (-5), 2) := by decide +kernel
theorem dX9_guess_31 : decode cX9_guess 31 = .ok (.goto 4, 3) := by decide +kernel
theorem dX9_guess_34 : decode cX9_guess 34 = .ok (.iload_n 2, 1) := by decide +kernel
theorem dX9_guess_35 : decode cX9_guess 35 = .ok (.ireturn, 1) := by decide +kernel
set_option maxRecDepth 20000 in
theorem ggX9_lead_X9_isLearner : GoodIn wsX9_lead wsX9_isLearner := goodIn_r _ [6, 7, 8, 9, 5, 10, 44, 45, 46, 47, 48, 49, 50, 51, 52, 53, 54, 55, 56, 57, 58, 59, 60, 61, 62, 63, 64, 65, 66, 67, 68, 69, 70, 71, 72, 73, 74, 75, 76, 77, 78, 79, 80] (by decide +kernel) (by decide +kernel)
set_option maxRecDepth 20000 in
theorem gX9_lead_X9_isLearner : GoodIn wsX9_lead (wsV RX9 151 RX9 yX9_isLearner wsX9_isLearner) := goodIn_app (goodIn_of _ (by decide +kernel)) ggX9_lead_X9_isLearner
set_option maxRecDepth 20000 in
theorem ggX9_lead_X9_bestOf : GoodIn wsX9_lead wsX9_bestOf := goodIn_r _ [14, 15, 16, 1, 17, 18, 19, 5, 20, 21, 22, 23, 24, 25, 26, 27, 28, 29, 30, 31, 32, 33, 34, 35, 36, 37, 38, 39, 40, 41, 42, 43, 44, 45, 46, 47, 48, 49, 50, 51, 52, 53, 54, 55, 56, 57, 58, 59, 60, 61, 62, 63, 64, 65, 66, 67, 68, 69, 70, 71, 72, 73, 74, 75, 76, 77, 78, 79, 80] (by decide +kernel) (by decide +kernel)
set_option maxRecDepth 20000 in
theorem gX9_lead_X9_bestOf : GoodIn wsX9_lead (wsV RX9 174 RX9 yX9_bestOf wsX9_bestOf) := goodIn_app (goodIn_of _ (by decide +kernel)) ggX9_lead_X9_bestOf
theorem dX9_lead_0 : decode cX9_lead 0 = .ok (.aload_n 0, 1) := by decide +kernel
theorem dX9_lead_1 : decode cX9_lead 1 = .ok (.iload_n 1, 1) := by decide +kernel
theorem dX9_lead_2 : decode cX9_lead 2 = .ok (.invokevirtual 151, 3) := by decide +kernel
theorem dX9_lead_5 : decode cX9_lead 5 = .ok (.ifCond .ne 5, 3) := by decide +kernel
theorem dX9_lead_8 : decode cX9_lead 8 = .ok (.iconst (-1), 1) := by decide +kernel
theorem dX9_lead_9 : decode cX9_lead 9 = .ok (.ireturn, 1) := by decide +kernel
theorem dX9_lead_10 : decode cX9_lead 10 = .ok (.aload_n 0, 1) := by decide +kernel
theorem dX9_lead_11 : decode cX9_lead 11 = .ok (.iload_n 1, 1) := by decide +kernel
theorem dX9_lead_12 : decode cX9_lead 12 = .ok (.invokevirtual 174, 3) := by decide +kernel
theorem dX9_lead_15 : decode cX9_lead 15 = .ok (.istore_n 2, 1) := by decide +kernel
theorem dX9_lead_16 : decode cX9_lead 16 = .ok (.iload_n 2, 1) := by decide +kernel
theorem dX9_lead_17 : decode cX9_lead 17 = .ok (.ifCond .ge 7, 3) := by decide +kernel
theorem dX9_lead_20 : decode cX9_lead 20 = .ok (.iconst (-1), 1) := by decide +kernel
theorem dX9_lead_21 : decode cX9_lead 21 = .ok (.goto 7, 3) := by decide +kernel
theorem dX9_lead_24 : decode cX9_lead 24 = .ok (.aload_n 0, 1) := by decide +kernel
theorem dX9_lead_25 : decode cX9_lead 25 = .ok (.getfield 171, 3) := by decide +kernel
theorem dX9_lead_28 : decode cX9_lead 28 = .ok (.ireturn, 1) := by decide +kernel
set_option maxRecDepth 20000 in
theorem ggX9_isStrange_X9_workOf : GoodIn wsX9_isStrange wsX9_workOf := goodIn_r _ [10, 11, 12, 13, 14, 15, 9, 16, 17, 18, 19, 20, 21, 22, 23, 24, 25, 26, 27, 28, 29, 30, 31, 32, 33, 34, 35, 36, 37, 38, 39, 40, 41, 42, 43, 44, 45, 46, 47, 48, 49, 50, 51, 52, 53, 54, 55, 56, 57] (by decide +kernel) (by decide +kernel)
set_option maxRecDepth 20000 in
theorem gX9_isStrange_X9_workOf : GoodIn wsX9_isStrange (wsV RX9 124 RX9 yX9_workOf wsX9_workOf) := goodIn_app (goodIn_of _ (by decide +kernel)) ggX9_isStrange_X9_workOf
theorem dX9_isStrange_0 : decode cX9_isStrange 0 = .ok (.aload_n 0, 1) := by decide +kernel
theorem dX9_isStrange_1 : decode cX9_isStrange 1 = .ok (.getfield 37, 3) := by decide +kernel
theorem dX9_isStrange_4 : decode cX9_isStrange 4 = .ok (.iload_n 1, 1) := by decide +kernel
theorem dX9_isStrange_5 : decode cX9_isStrange 5 = .ok (.baload, 1) := by decide +kernel
theorem dX9_isStrange_6 : decode cX9_isStrange 6 = .ok (.ifCond .ne 7, 3) := by decide +kernel
theorem dX9_isStrange_9 : decode cX9_isStrange 9 = .ok (.iconst 1, 1) := by decide +kernel
theorem dX9_isStrange_10 : decode cX9_isStrange 10 = .ok (.goto 4, 3) := by decide +kernel
theorem dX9_isStrange_13 : decode cX9_isStrange 13 = .ok (.iconst 0, 1) := by decide +kernel
theorem dX9_isStrange_14 : decode cX9_isStrange 14 = .ok (.istore_n 2, 1) := by decide +kernel
theorem dX9_isStrange_15 : decode cX9_isStrange 15 = .ok (.iconst 0, 1) := by decide +kernel
theorem dX9_isStrange_16 : decode cX9_isStrange 16 = .ok (.istore_n 3, 1) := by decide +kernel
theorem dX9_isStrange_17 : decode cX9_isStrange 17 = .ok (.iload_n 3, 1) := by decide +kernel
theorem dX9_isStrange_18 : decode cX9_isStrange 18 = .ok (.bipush 93, 2) := by decide +kernel
theorem dX9_isStrange_20 : decode cX9_isStrange 20 = .ok (.if_icmp .ge 50, 3) := by decide +kernel
theorem dX9_isStrange_23 : decode cX9_isStrange 23 = .ok (.iload_n 2, 1) := by decide +kernel
theorem dX9_isStrange_24 : decode cX9_isStrange 24 = .ok (.ifCond .eq 46, 3) := by decide +kernel
theorem dX9_isStrange_27 : decode cX9_isStrange 27 = .ok (.aload_n 0, 1) := by decide +kernel
theorem dX9_isStrange_28 : decode cX9_isStrange 28 = .ok (.aload_n 0, 1) := by decide +kernel
theorem dX9_isStrange_29 : decode cX9_isStrange 29 = .ok (.getfield 28, 3) := by decide +kernel
theorem dX9_isStrange_32 : decode cX9_isStrange 32 = .ok (.iload_n 1, 1) := by decide +kernel
theorem dX9_isStrange_33 : decode cX9_isStrange 33 = .ok (.iaload, 1) := by decide +kernel
theorem dX9_isStrange_34 : decode cX9_isStrange 34 = .ok (.aload_n 0, 1) := by decide +kernel
theorem dX9_isStrange_35 : decode cX9_isStrange 35 = .ok (.getfield 31, 3) := by decide +kernel
theorem dX9_isStrange_38 : decode cX9_isStrange 38 = .ok (.iload_n 1, 1) := by decide +kernel
theorem dX9_isStrange_39 : decode cX9_isStrange 39 = .ok (.iaload, 1) := by decide +kernel
theorem dX9_isStrange_40 : decode cX9_isStrange 40 = .ok (.aload_n 0, 1) := by decide +kernel
theorem dX9_isStrange_41 : decode cX9_isStrange 41 = .ok (.getfield 7, 3) := by decide +kernel
theorem dX9_isStrange_44 : decode cX9_isStrange 44 = .ok (.iload_n 3, 1) := by decide +kernel
theorem dX9_isStrange_45 : decode cX9_isStrange 45 = .ok (.iaload, 1) := by decide +kernel
theorem dX9_isStrange_46 : decode cX9_isStrange 46 = .ok (.invokevirtual 124, 3) := by decide +kernel
theorem dX9_isStrange_49 : decode cX9_isStrange 49 = .ok (.aload_n 0, 1) := by decide +kernel
theorem dX9_isStrange_50 : decode cX9_isStrange 50 = .ok (.getfield 34, 3) := by decide +kernel
theorem dX9_isStrange_53 : decode cX9_isStrange 53 = .ok (.iload_n 1, 1) := by decide +kernel
theorem dX9_isStrange_54 : decode cX9_isStrange 54 = .ok (.iaload, 1) := by decide +kernel
theorem dX9_isStrange_55 : decode cX9_isStrange 55 = .ok (.if_icmp .eq 7, 3) := by decide +kernel
theorem dX9_isStrange_58 : decode cX9_isStrange 58 = .ok (.iconst 1, 1) := by decide +kernel
theorem dX9_isStrange_59 : decode cX9_isStrange 59 = .ok (.goto 4, 3) := by decide +kernel
theorem dX9_isStrange_62 : decode cX9_isStrange 62 = .ok (.iconst 0, 1) := by decide +kernel
theorem dX9_isStrange_63 : decode cX9_isStrange 63 = .ok (.istore_n 2, 1) := by decide +kernel
theorem dX9_isStrange_64 : decode cX9_isStrange 64 = .ok (.iinc 3 1, 3) := by decide +kernel
theorem dX9_isStrange_67 : decode cX9_isStrange 67 = .ok (.goto (-50), 3) := by decide +kernel
theorem dX9_isStrange_70 : decode cX9_isStrange 70 = .ok (.iload_n 2, 1) := by decide +kernel
theorem dX9_isStrange_71 : decode cX9_isStrange 71 = .ok (.ireturn, 1) := by decide +kernel
set_option maxRecDepth 20000 in
theorem ggX9_count_X9_isLearner : GoodIn wsX9_count wsX9_isLearner := goodIn_r _ [11, 12, 13, 14, 10, 15, 35, 36, 37, 38, 39, 40, 41, 42, 43, 44, 45, 46, 47, 48, 49, 50, 51, 52, 53, 54, 55, 56, 57, 58, 59, 60, 61, 62, 63, 64, 65, 66, 67, 68, 69, 70, 71] (by decide +kernel) (by decide +kernel)
set_option maxRecDepth 20000 in
theorem gX9_count_X9_isLearner : GoodIn wsX9_count (wsV RX9 151 RX9 yX9_isLearner wsX9_isLearner) := goodIn_app (goodIn_of _ (by decide +kernel)) ggX9_count_X9_isLearner
set_option maxRecDepth 20000 in
theorem ggX9_count_X9_in : GoodIn wsX9_count wsX9_in := goodIn_r _ [15] (by decide +kernel) (by decide +kernel)
set_option maxRecDepth 20000 in
theorem gX9_count_X9_in : GoodIn wsX9_count (va_wsS RX9 102 yX9_in wsX9_in) := goodIn_app (goodIn_of _ (by decide +kernel)) ggX9_count_X9_in
set_option maxRecDepth 20000 in
theorem ggX9_count_X9_isStrange : GoodIn wsX9_count wsX9_isStrange := goodIn_r _ [19, 3, 5, 6, 20, 4, 21, 22, 23, 10, 24, 25, 26, 27, 28, 29, 30, 31, 32, 33, 34, 35, 36, 37, 38, 39, 40, 41, 42, 43, 44, 45, 46, 47, 48, 49, 50, 51, 52, 53, 54, 55, 56, 57, 58, 59, 60, 61, 62, 63, 64, 65, 66, 67, 68, 69, 70, 71] (by decide +kernel) (by decide +kernel)
set_option maxRecDepth 20000 in
theorem gX9_count_X9_isStrange : GoodIn wsX9_count (wsV RX9 179 RX9 yX9_isStrange wsX9_isStrange) := goodIn_app (goodIn_of _ (by decide +kernel)) ggX9_count_X9_isStrange
theorem dX9_count_0 : decode cX9_count 0 = .ok (.aload_n 0, 1) := by decide +kernel
theorem dX9_count_1 : decode cX9_count 1 = .ok (.iload_n 1, 1) := by decide +kernel
theorem dX9_count_2 : decode cX9_count 2 = .ok (.invokevirtual 151, 3) := by decide +kernel
theorem dX9_count_5 : decode cX9_count 5 = .ok (.ifCond .eq 15, 3) := by decide +kernel
theorem dX9_count_8 : decode cX9_count 8 = .ok (.iload_n 2, 1) := by decide +kernel
theorem dX9_count_9 : decode cX9_count 9 = .ok (.i2l, 1) := by decide +kernel
theorem dX9_count_10 : decode cX9_count 10 = .ok (.lconst 0, 1) := by decide +kernel
theorem dX9_count_11 : decode cX9_count 11 = .ok (.ldc2_w 177, 3) := by decide +kernel
theorem dX9_count_14 : decode cX9_count 14 = .ok (.invokestatic 102, 3) := by decide +kernel
theorem dX9_count_17 : decode cX9_count 17 = .ok (.ifCond .ne 5, 3) := by decide +kernel
theorem dX9_count_20 : decode cX9_count 20 = .ok (.iconst (-1), 1) := by decide +kernel
theorem dX9_count_21 : decode cX9_count 21 = .ok (.ireturn, 1) := by decide +kernel
theorem dX9_count_22 : decode cX9_count 22 = .ok (.iconst 0, 1) := by decide +kernel
theorem dX9_count_23 : decode cX9_count 23 = .ok (.istore_n 3, 1) := by decide +kernel
theorem dX9_count_24 : decode cX9_count 24 = .ok (.bipush 40, 2) := by decide +kernel
theorem dX9_count_26 : decode cX9_count 26 = .ok (.iload_n 1, 1) := by decide +kernel
theorem dX9_count_27 : decode cX9_count 27 = .ok (.imul, 1) := by decide +kernel
theorem dX9_count_28 : decode cX9_count 28 = .ok (.istore 4, 2) := by decide +kernel
theorem dX9_count_30 : decode cX9_count 30 = .ok (.iload 4, 2) := by decide +kernel
theorem dX9_count_32 : decode cX9_count 32 = .ok (.bipush 40, 2) := by decide +kernel
theorem dX9_count_34 : decode cX9_count 34 = .ok (.iload_n 1, 1) := by decide +kernel
theorem dX9_count_35 : decode cX9_count 35 = .ok (.imul, 1) := by decide +kernel
theorem dX9_count_36 : decode cX9_count 36 = .ok (.aload_n 0, 1) := by decide +kernel
theorem dX9_count_37 : decode cX9_count 37 = .ok (.getfield 25, 3) := by decide +kernel
theorem dX9_count_40 : decode cX9_count 40 = .ok (.iload_n 1, 1) := by decide +kernel
theorem dX9_count_41 : decode cX9_count 41 = .ok (.iaload, 1) := by decide +kernel
theorem dX9_count_42 : decode cX9_count 42 = .ok (.iadd, 1) := by decide +kernel
theorem dX9_count_43 : decode cX9_count 43 = .ok (.if_icmp .ge 102, 3) := by decide +kernel
theorem dX9_count_46 : decode cX9_count 46 = .ok (.aload_n 0, 1) := by decide +kernel
theorem dX9_count_47 : decode cX9_count 47 = .ok (.getfield 37, 3) := by decide +kernel
theorem dX9_count_50 : decode cX9_count 50 = .ok (.iload 4, 2) := by decide +kernel
theorem dX9_count_52 : decode cX9_count 52 = .ok (.baload, 1) := by decide +kernel
theorem dX9_count_53 : decode cX9_count 53 = .ok (.ifCond .ne 32, 3) := by decide +kernel
theorem dX9_count_56 : decode cX9_count 56 = .ok (.aload_n 0, 1) := by decide +kernel
theorem dX9_count_57 : decode cX9_count 57 = .ok (.getfield 34, 3) := by decide +kernel
theorem dX9_count_60 : decode cX9_count 60 = .ok (.iload 4, 2) := by decide +kernel
theorem dX9_count_62 : decode cX9_count 62 = .ok (.iaload, 1) := by decide +kernel
theorem dX9_count_63 : decode cX9_count 63 = .ok (.aload_n 0, 1) := by decide +kernel
theorem dX9_count_64 : decode cX9_count 64 = .ok (.getfield 28, 3) := by decide +kernel
theorem dX9_count_67 : decode cX9_count 67 = .ok (.iload 4, 2) := by decide +kernel
theorem dX9_count_69 : decode cX9_count 69 = .ok (.iaload, 1) := by decide +kernel
theorem dX9_count_70 : decode cX9_count 70 = .ok (.aload_n 0, 1) := by decide +kernel
theorem dX9_count_71 : decode cX9_count 71 = .ok (.getfield 31, 3) := by decide +kernel
theorem dX9_count_74 : decode cX9_count 74 = .ok (.iload 4, 2) := by decide +kernel
theorem dX9_count_76 : decode cX9_count 76 = .ok (.iaload, 1) := by decide +kernel
theorem dX9_count_77 : decode cX9_count 77 = .ok (.isub, 1) := by decide +kernel
theorem dX9_count_78 : decode cX9_count 78 = .ok (.if_icmp .ne 7, 3) := by decide +kernel
theorem dX9_count_81 : decode cX9_count 81 = .ok (.iconst 1, 1) := by decide +kernel
theorem dX9_count_82 : decode cX9_count 82 = .ok (.goto 4, 3) := by decide +kernel
theorem dX9_count_85 : decode cX9_count 85 = .ok (.iconst 0, 1) := by decide +kernel
theorem dX9_count_86 : decode cX9_count 86 = .ok (.istore 5, 2) := by decide +kernel
theorem dX9_count_88 : decode cX9_count 88 = .ok (.iload_n 3, 1) := by decide +kernel
theorem dX9_count_89 : decode cX9_count 89 = .ok (.iload_n 2, 1) := by decide +kernel
theorem dX9_count_90 : decode cX9_count 90 = .ok (.ifCond .eq 42, 3) := by decide +kernel
theorem dX9_count_93 : decode cX9_count 93 = .ok (.iload_n 2, 1) := by decide +kernel
theorem dX9_count_94 : decode cX9_count 94 = .ok (.iconst 1, 1) := by decide +kernel
theorem dX9_count_95 : decode cX9_count 95 = .ok (.if_icmp .ne 13, 3) := by decide +kernel
theorem dX9_count_98 : decode cX9_count 98 = .ok (.aload_n 0, 1) := by decide +kernel
theorem dX9_count_99 : decode cX9_count 99 = .ok (.getfield 37, 3) := by decide +kernel
theorem dX9_count_102 : decode cX9_count 102 = .ok (.iload 4, 2) := by decide +kernel
theorem dX9_count_104 : decode cX9_count 104 = .ok (.baload, 1) := by decide +kernel
theorem dX9_count_105 : decode cX9_count 105 = .ok (.ifCond .ne 27, 3) := by decide +kernel
theorem dX9_count_108 : decode cX9_count 108 = .ok (.iload_n 2, 1) := by decide +kernel
theorem dX9_count_109 : decode cX9_count 109 = .ok (.iconst 2, 1) := by decide +kernel
theorem dX9_count_110 : decode cX9_count 110 = .ok (.if_icmp .ne 8, 3) := by decide +kernel
theorem dX9_count_113 : decode cX9_count 113 = .ok (.iload 5, 2) := by decide +kernel
theorem dX9_count_115 : decode cX9_count 115 = .ok (.ifCond .ne 17, 3) := by decide +kernel
theorem dX9_count_118 : decode cX9_count 118 = .ok (.iload_n 2, 1) := by decide +kernel
theorem dX9_count_119 : decode cX9_count 119 = .ok (.iconst 3, 1) := by decide +kernel
theorem dX9_count_120 : decode cX9_count 120 = .ok (.if_icmp .ne 16, 3) := by decide +kernel
theorem dX9_count_123 : decode cX9_count 123 = .ok (.aload_n 0, 1) := by decide +kernel
theorem dX9_count_124 : decode cX9_count 124 = .ok (.iload 4, 2) := by decide +kernel
theorem dX9_count_126 : decode cX9_count 126 = .ok (.invokevirtual 179, 3) := by decide +kernel
theorem dX9_count_129 : decode cX9_count 129 = .ok (.ifCond .eq 7, 3) := by decide +kernel
theorem dX9_count_132 : decode cX9_count 132 = .ok (.iconst 1, 1) := by decide +kernel
theorem dX9_count_133 : decode cX9_count 133 = .ok (.goto 4, 3) := by decide +kernel
theorem dX9_count_136 : decode cX9_count 136 = .ok (.iconst 0, 1) := by decide +kernel
theorem dX9_count_137 : decode cX9_count 137 = .ok (.iadd, 1) := by decide +kernel
theorem dX9_count_138 : decode cX9_count 138 = .ok (.istore_n 3, 1) := by decide +kernel
theorem dX9_count_139 : decode cX9_count 139 = .ok (.iinc 4 1, 3) := by decide +kernel
theorem dX9_count_142 : decode cX9_count 142 = .ok (.goto (-112), 3) := by decide +kernel
theorem dX9_count_145 : decode cX9_count 145 = .ok (.iload_n 3, 1) := by decide +kernel
theorem dX9_count_146 : decode cX9_count 146 = .ok (.ireturn, 1) := by decide +kernel
theorem dX9_keyOf_0 : decode cX9_keyOf 0 = .ok (.ldc2_w 182, 3) := by decide +kernel
theorem dX9_keyOf_3 : decode cX9_keyOf 3 = .ok (.aload_n 0, 1) := by decide +kernel
theorem dX9_keyOf_4 : decode cX9_keyOf 4 = .ok (.getfield 28, 3) := by decide +kernel
theorem dX9_keyOf_7 : decode cX9_keyOf 7 = .ok (.iload_n 1, 1) := by decide +kernel
theorem dX9_keyOf_8 : decode cX9_keyOf 8 = .ok (.iaload, 1) := by decide +kernel
theorem dX9_keyOf_9 : decode cX9_keyOf 9 = .ok (.i2l, 1) := by decide +kernel
theorem dX9_keyOf_10 : decode cX9_keyOf 10 = .ok (.lmul, 1) := by decide +kernel
theorem dX9_keyOf_11 : decode cX9_keyOf 11 = .ok (.ldc2_w 184, 3) := by decide +kernel
theorem dX9_keyOf_14 : decode cX9_keyOf 14 = .ok (.aload_n 0, 1) := by decide +kernel
theorem dX9_keyOf_15 : decode cX9_keyOf 15 = .ok (.getfield 31, 3) := by decide +kernel
theorem dX9_keyOf_18 : decode cX9_keyOf 18 = .ok (.iload_n 1, 1) := by decide +kernel
theorem dX9_keyOf_19 : decode cX9_keyOf 19 = .ok (.iaload, 1) := by decide +kernel
theorem dX9_keyOf_20 : decode cX9_keyOf 20 = .ok (.i2l, 1) := by decide +kernel
theorem dX9_keyOf_21 : decode cX9_keyOf 21 = .ok (.lmul, 1) := by decide +kernel
theorem dX9_keyOf_22 : decode cX9_keyOf 22 = .ok (.ladd, 1) := by decide +kernel
theorem dX9_keyOf_23 : decode cX9_keyOf 23 = .ok (.aload_n 0, 1) := by decide +kernel
theorem dX9_keyOf_24 : decode cX9_keyOf 24 = .ok (.getfield 34, 3) := by decide +kernel
theorem dX9_keyOf_27 : decode cX9_keyOf 27 = .ok (.iload_n 1, 1) := by decide +kernel
theorem dX9_keyOf_28 : decode cX9_keyOf 28 = .ok (.iaload, 1) := by decide +kernel
theorem dX9_keyOf_29 : decode cX9_keyOf 29 = .ok (.i2l, 1) := by decide +kernel
theorem dX9_keyOf_30 : decode cX9_keyOf 30 = .ok (.ladd, 1) := by decide +kernel
theorem dX9_keyOf_31 : decode cX9_keyOf 31 = .ok (.lreturn, 1) := by decide +kernel
set_option maxRecDepth 20000 in
theorem ggX9_strange_X9_in : GoodIn wsX9_strange wsX9_in := goodIn_r _ [11] (by decide +kernel) (by decide +kernel)
set_option maxRecDepth 20000 in
theorem gX9_strange_X9_in : GoodIn wsX9_strange (va_wsS RX9 102 yX9_in wsX9_in) := goodIn_app (goodIn_of _ (by decide +kernel)) ggX9_strange_X9_in
set_option maxRecDepth 20000 in
theorem ggX9_strange_X9_isStrange : GoodIn wsX9_strange wsX9_isStrange := goodIn_r _ [15, 4, 5, 6, 16, 7, 17, 18, 19, 10, 20, 21, 22, 23, 24, 25, 26, 27, 28, 29, 30, 37, 38, 39, 40, 41, 42, 43, 44, 45, 46, 47, 48, 49, 50, 51, 52, 53, 54, 55, 56, 57, 58, 59, 60, 61, 62, 63, 64, 65, 66, 67, 68, 69, 70, 71, 72, 73] (by decide +kernel) (by decide +kernel)
set_option maxRecDepth 20000 in
theorem gX9_strange_X9_isStrange : GoodIn wsX9_strange (wsV RX9 179 RX9 yX9_isStrange wsX9_isStrange) := goodIn_app (goodIn_of _ (by decide +kernel)) ggX9_strange_X9_isStrange
set_option maxRecDepth 20000 in
theorem ggX9_strange_X9_keyOf : GoodIn wsX9_strange wsX9_keyOf := goodIn_r _ [34, 35, 5, 36, 6, 7, 37, 38, 39, 40, 41, 42, 43, 44, 45, 46, 47, 48, 49, 50, 51, 52, 53, 54, 55, 56, 57, 58, 59, 60, 61, 62, 63, 64, 65, 66, 67, 68, 69, 70, 71, 72, 73] (by decide +kernel) (by decide +kernel)
set_option maxRecDepth 20000 in
theorem gX9_strange_X9_keyOf : GoodIn wsX9_strange (wsV RX9 186 RX9 yX9_keyOf wsX9_keyOf) := goodIn_app (goodIn_of _ (by decide +kernel)) ggX9_strange_X9_keyOf
theorem dX9_strange_0 : decode cX9_strange 0 = .ok (.iload_n 1, 1) := by decide +kernel
theorem dX9_strange_1 : decode cX9_strange 1 = .ok (.i2l, 1) := by decide +kernel
theorem dX9_strange_2 : decode cX9_strange 2 = .ok (.lconst 0, 1) := by decide +kernel
theorem dX9_strange_3 : decode cX9_strange 3 = .ok (.ldc2_w 177, 3) := by decide +kernel
theorem dX9_strange_6 : decode cX9_strange 6 = .ok (.invokestatic 102, 3) := by decide +kernel
theorem dX9_strange_9 : decode cX9_strange 9 = .ok (.ifCond .ne 5, 3) := by decide +kernel
theorem dX9_strange_12 : decode cX9_strange 12 = .ok (.iconst (-1), 1) := by decide +kernel
theorem dX9_strange_13 : decode cX9_strange 13 = .ok (.ireturn, 1) := by decide +kernel
theorem dX9_strange_14 : decode cX9_strange 14 = .ok (.bipush (-4), 2) := by decide +kernel
theorem dX9_strange_16 : decode cX9_strange 16 = .ok (.istore_n 2, 1) := by decide +kernel
theorem dX9_strange_17 : decode cX9_strange 17 = .ok (.iconst 0, 1) := by decide +kernel
theorem dX9_strange_18 : decode cX9_strange 18 = .ok (.istore_n 3, 1) := by decide +kernel
theorem dX9_strange_19 : decode cX9_strange 19 = .ok (.iconst 0, 1) := by decide +kernel
theorem dX9_strange_20 : decode cX9_strange 20 = .ok (.istore 4, 2) := by decide +kernel
theorem dX9_strange_22 : decode cX9_strange 22 = .ok (.iload 4, 2) := by decide +kernel
theorem dX9_strange_24 : decode cX9_strange 24 = .ok (.sipush 480, 3) := by decide +kernel
theorem dX9_strange_27 : decode cX9_strange 27 = .ok (.if_icmp .ge 210, 3) := by decide +kernel
theorem dX9_strange_30 : decode cX9_strange 30 = .ok (.iconst 0, 1) := by decide +kernel
theorem dX9_strange_31 : decode cX9_strange 31 = .ok (.istore 5, 2) := by decide +kernel
theorem dX9_strange_33 : decode cX9_strange 33 = .ok (.iload 4, 2) := by decide +kernel
theorem dX9_strange_35 : decode cX9_strange 35 = .ok (.bipush 40, 2) := by decide +kernel
theorem dX9_strange_37 : decode cX9_strange 37 = .ok (.irem, 1) := by decide +kernel
theorem dX9_strange_38 : decode cX9_strange 38 = .ok (.aload_n 0, 1) := by decide +kernel
theorem dX9_strange_39 : decode cX9_strange 39 = .ok (.getfield 25, 3) := by decide +kernel
theorem dX9_strange_42 : decode cX9_strange 42 = .ok (.iload 4, 2) := by decide +kernel
theorem dX9_strange_44 : decode cX9_strange 44 = .ok (.bipush 40, 2) := by decide +kernel
theorem dX9_strange_46 : decode cX9_strange 46 = .ok (.idiv, 1) := by decide +kernel
theorem dX9_strange_47 : decode cX9_strange 47 = .ok (.iaload, 1) := by decide +kernel
theorem dX9_strange_48 : decode cX9_strange 48 = .ok (.if_icmp .ge 28, 3) := by decide +kernel
theorem dX9_strange_51 : decode cX9_strange 51 = .ok (.iload 4, 2) := by decide +kernel
theorem dX9_strange_53 : decode cX9_strange 53 = .ok (.bipush 40, 2) := by decide +kernel
theorem dX9_strange_55 : decode cX9_strange 55 = .ok (.idiv, 1) := by decide +kernel
theorem dX9_strange_56 : decode cX9_strange 56 = .ok (.aload_n 0, 1) := by decide +kernel
theorem dX9_strange_57 : decode cX9_strange 57 = .ok (.getfield 148, 3) := by decide +kernel
theorem dX9_strange_60 : decode cX9_strange 60 = .ok (.if_icmp .ge 16, 3) := by decide +kernel
theorem dX9_strange_63 : decode cX9_strange 63 = .ok (.aload_n 0, 1) := by decide +kernel
theorem dX9_strange_64 : decode cX9_strange 64 = .ok (.iload 4, 2) := by decide +kernel
theorem dX9_strange_66 : decode cX9_strange 66 = .ok (.invokevirtual 179, 3) := by decide +kernel
theorem dX9_strange_69 : decode cX9_strange 69 = .ok (.ifCond .eq 7, 3) := by decide +kernel
theorem dX9_strange_72 : decode cX9_strange 72 = .ok (.iconst 1, 1) := by decide +kernel
theorem dX9_strange_73 : decode cX9_strange 73 = .ok (.goto 4, 3) := by decide +kernel
theorem dX9_strange_76 : decode cX9_strange 76 = .ok (.iconst 0, 1) := by decide +kernel
theorem dX9_strange_77 : decode cX9_strange 77 = .ok (.istore 6, 2) := by decide +kernel
theorem dX9_strange_79 : decode cX9_strange 79 = .ok (.iconst 0, 1) := by decide +kernel
theorem dX9_strange_80 : decode cX9_strange 80 = .ok (.istore 7, 2) := by decide +kernel
theorem dX9_strange_82 : decode cX9_strange 82 = .ok (.iload 7, 2) := by decide +kernel
theorem dX9_strange_84 : decode cX9_strange 84 = .ok (.sipush 480, 3) := by decide +kernel
theorem dX9_strange_87 : decode cX9_strange 87 = .ok (.if_icmp .ge 80, 3) := by decide +kernel
theorem dX9_strange_90 : decode cX9_strange 90 = .ok (.iload 6, 2) := by decide +kernel
theorem dX9_strange_92 : decode cX9_strange 92 = .ok (.ifCond .eq 75, 3) := by decide +kernel
theorem dX9_strange_95 : decode cX9_strange 95 = .ok (.iload 5, 2) := by decide +kernel
theorem dX9_strange_97 : decode cX9_strange 97 = .ok (.iload 7, 2) := by decide +kernel
theorem dX9_strange_99 : decode cX9_strange 99 = .ok (.bipush 40, 2) := by decide +kernel
theorem dX9_strange_101 : decode cX9_strange 101 = .ok (.irem, 1) := by decide +kernel
theorem dX9_strange_102 : decode cX9_strange 102 = .ok (.aload_n 0, 1) := by decide +kernel
theorem dX9_strange_103 : decode cX9_strange 103 = .ok (.getfield 25, 3) := by decide +kernel
theorem dX9_strange_106 : decode cX9_strange 106 = .ok (.iload 7, 2) := by decide +kernel
theorem dX9_strange_108 : decode cX9_strange 108 = .ok (.bipush 40, 2) := by decide +kernel
theorem dX9_strange_110 : decode cX9_strange 110 = .ok (.idiv, 1) := by decide +kernel
theorem dX9_strange_111 : decode cX9_strange 111 = .ok (.iaload, 1) := by decide +kernel
theorem dX9_strange_112 : decode cX9_strange 112 = .ok (.if_icmp .ge 45, 3) := by decide +kernel
theorem dX9_strange_115 : decode cX9_strange 115 = .ok (.iload 7, 2) := by decide +kernel
theorem dX9_strange_117 : decode cX9_strange 117 = .ok (.bipush 40, 2) := by decide +kernel
theorem dX9_strange_119 : decode cX9_strange 119 = .ok (.idiv, 1) := by decide +kernel
theorem dX9_strange_120 : decode cX9_strange 120 = .ok (.aload_n 0, 1) := by decide +kernel
theorem dX9_strange_121 : decode cX9_strange 121 = .ok (.getfield 148, 3) := by decide +kernel
theorem dX9_strange_124 : decode cX9_strange 124 = .ok (.if_icmp .ge 33, 3) := by decide +kernel
theorem dX9_strange_127 : decode cX9_strange 127 = .ok (.aload_n 0, 1) := by decide +kernel
theorem dX9_strange_128 : decode cX9_strange 128 = .ok (.getfield 37, 3) := by decide +kernel
theorem dX9_strange_131 : decode cX9_strange 131 = .ok (.iload 7, 2) := by decide +kernel
theorem dX9_strange_133 : decode cX9_strange 133 = .ok (.baload, 1) := by decide +kernel
theorem dX9_strange_134 : decode cX9_strange 134 = .ok (.ifCond .ne 23, 3) := by decide +kernel
theorem dX9_strange_137 : decode cX9_strange 137 = .ok (.aload_n 0, 1) := by decide +kernel
theorem dX9_strange_138 : decode cX9_strange 138 = .ok (.iload 7, 2) := by decide +kernel
theorem dX9_strange_140 : decode cX9_strange 140 = .ok (.invokevirtual 186, 3) := by decide +kernel
theorem dX9_strange_143 : decode cX9_strange 143 = .ok (.aload_n 0, 1) := by decide +kernel
theorem dX9_strange_144 : decode cX9_strange 144 = .ok (.iload 4, 2) := by decide +kernel
theorem dX9_strange_146 : decode cX9_strange 146 = .ok (.invokevirtual 186, 3) := by decide +kernel
theorem dX9_strange_149 : decode cX9_strange 149 = .ok (.lcmp, 1) := by decide +kernel
theorem dX9_strange_150 : decode cX9_strange 150 = .ok (.ifCond .ne 7, 3) := by decide +kernel
theorem dX9_strange_153 : decode cX9_strange 153 = .ok (.iconst 1, 1) := by decide +kernel
theorem dX9_strange_154 : decode cX9_strange 154 = .ok (.goto 4, 3) := by decide +kernel
theorem dX9_strange_157 : decode cX9_strange 157 = .ok (.iconst 0, 1) := by decide +kernel
theorem dX9_strange_158 : decode cX9_strange 158 = .ok (.iadd, 1) := by decide +kernel
theorem dX9_strange_159 : decode cX9_strange 159 = .ok (.istore 5, 2) := by decide +kernel
theorem dX9_strange_161 : decode cX9_strange 161 = .ok (.iinc 7 1, 3) := by decide +kernel
theorem dX9_strange_164 : decode cX9_strange 164 = .ok (.goto (-82), 3) := by decide +kernel
theorem dX9_strange_167 : decode cX9_strange 167 = .ok (.iload 5, 2) := by decide +kernel
theorem dX9_strange_169 : decode cX9_strange 169 = .ok (.iload_n 3, 1) := by decide +kernel
theorem dX9_strange_170 : decode cX9_strange 170 = .ok (.if_icmp .gt 29, 3) := by decide +kernel
theorem dX9_strange_173 : decode cX9_strange 173 = .ok (.iload 5, 2) := by decide +kernel
theorem dX9_strange_175 : decode cX9_strange 175 = .ok (.iload_n 3, 1) := by decide +kernel
theorem dX9_strange_176 : decode cX9_strange 176 = .ok (.if_icmp .ne 27, 3) := by decide +kernel
theorem dX9_strange_179 : decode cX9_strange 179 = .ok (.iload 5, 2) := by decide +kernel
theorem dX9_strange_181 : decode cX9_strange 181 = .ok (.ifCond .le 22, 3) := by decide +kernel
theorem dX9_strange_184 : decode cX9_strange 184 = .ok (.aload_n 0, 1) := by decide +kernel
theorem dX9_strange_185 : decode cX9_strange 185 = .ok (.iload 4, 2) := by decide +kernel
theorem dX9_strange_187 : decode cX9_strange 187 = .ok (.invokevirtual 186, 3) := by decide +kernel
theorem dX9_strange_190 : decode cX9_strange 190 = .ok (.aload_n 0, 1) := by decide +kernel
theorem dX9_strange_191 : decode cX9_strange 191 = .ok (.iload_n 2, 1) := by decide +kernel
theorem dX9_strange_192 : decode cX9_strange 192 = .ok (.invokevirtual 186, 3) := by decide +kernel
theorem dX9_strange_195 : decode cX9_strange 195 = .ok (.lcmp, 1) := by decide +kernel
theorem dX9_strange_196 : decode cX9_strange 196 = .ok (.ifCond .ge 7, 3) := by decide +kernel
theorem dX9_strange_199 : decode cX9_strange 199 = .ok (.iconst 1, 1) := by decide +kernel
theorem dX9_strange_200 : decode cX9_strange 200 = .ok (.goto 4, 3) := by decide +kernel
theorem dX9_strange_203 : decode cX9_strange 203 = .ok (.iconst 0, 1) := by decide +kernel
theorem dX9_strange_204 : decode cX9_strange 204 = .ok (.istore 7, 2) := by decide +kernel
theorem dX9_strange_206 : decode cX9_strange 206 = .ok (.iload 7, 2) := by decide +kernel
theorem dX9_strange_208 : decode cX9_strange 208 = .ok (.ifCond .eq 8, 3) := by decide +kernel
theorem dX9_strange_211 : decode cX9_strange 211 = .ok (.iload 4, 2) := by decide +kernel
theorem dX9_strange_213 : decode cX9_strange 213 = .ok (.goto 4, 3) := by decide +kernel
theorem dX9_strange_216 : decode cX9_strange 216 = .ok (.iload_n 2, 1) := by decide +kernel
theorem dX9_strange_217 : decode cX9_strange 217 = .ok (.istore_n 2, 1) := by decide +kernel
theorem dX9_strange_218 : decode cX9_strange 218 = .ok (.iload 5, 2) := by decide +kernel
theorem dX9_strange_220 : decode cX9_strange 220 = .ok (.iload_n 3, 1) := by decide +kernel
theorem dX9_strange_221 : decode cX9_strange 221 = .ok (.if_icmp .le 8, 3) := by decide +kernel
theorem dX9_strange_224 : decode cX9_strange 224 = .ok (.iload 5, 2) := by decide +kernel
theorem dX9_strange_226 : decode cX9_strange 226 = .ok (.goto 4, 3) := by decide +kernel
theorem dX9_strange_229 : decode cX9_strange 229 = .ok (.iload_n 3, 1) := by decide +kernel
theorem dX9_strange_230 : decode cX9_strange 230 = .ok (.istore_n 3, 1) := by decide +kernel
theorem dX9_strange_231 : decode cX9_strange 231 = .ok (.iinc 4 1, 3) := by decide +kernel
theorem dX9_strange_234 : decode cX9_strange 234 = .ok (.goto (-212), 3) := by decide +kernel
theorem dX9_strange_237 : decode cX9_strange 237 = .ok (.iload_n 2, 1) := by decide +kernel
theorem dX9_strange_238 : decode cX9_strange 238 = .ok (.ifCond .ge 6, 3) := by decide +kernel
theorem dX9_strange_241 : decode cX9_strange 241 = .ok (.bipush (-4), 2) := by decide +kernel
theorem dX9_strange_243 : decode cX9_strange 243 = .ok (.ireturn, 1) := by decide +kernel
theorem dX9_strange_244 : decode cX9_strange 244 = .ok (.iload_n 1, 1) := by decide +kernel
theorem dX9_strange_245 : decode cX9_strange 245 = .ok (.ifCond .ne 7, 3) := by decide +kernel
theorem dX9_strange_248 : decode cX9_strange 248 = .ok (.iload_n 3, 1) := by decide +kernel
theorem dX9_strange_249 : decode cX9_strange 249 = .ok (.goto 37, 3) := by decide +kernel
theorem dX9_strange_252 : decode cX9_strange 252 = .ok (.iload_n 1, 1) := by decide +kernel
theorem dX9_strange_253 : decode cX9_strange 253 = .ok (.iconst 1, 1) := by decide +kernel
theorem dX9_strange_254 : decode cX9_strange 254 = .ok (.if_icmp .ne 12, 3) := by decide +kernel
theorem dX9_strange_257 : decode cX9_strange 257 = .ok (.aload_n 0, 1) := by decide +kernel
theorem dX9_strange_258 : decode cX9_strange 258 = .ok (.getfield 28, 3) := by decide +kernel
theorem dX9_strange_261 : decode cX9_strange 261 = .ok (.iload_n 2, 1) := by decide +kernel
theorem dX9_strange_262 : decode cX9_strange 262 = .ok (.iaload, 1) := by decide +kernel
theorem dX9_strange_263 : decode cX9_strange 263 = .ok (.goto 23, 3) := by decide +kernel
theorem dX9_strange_266 : decode cX9_strange 266 = .ok (.iload_n 1, 1) := by decide +kernel
theorem dX9_strange_267 : decode cX9_strange 267 = .ok (.iconst 2, 1) := by decide +kernel
theorem dX9_strange_268 : decode cX9_strange 268 = .ok (.if_icmp .ne 12, 3) := by decide +kernel
theorem dX9_strange_271 : decode cX9_strange 271 = .ok (.aload_n 0, 1) := by decide +kernel
theorem dX9_strange_272 : decode cX9_strange 272 = .ok (.getfield 31, 3) := by decide +kernel
theorem dX9_strange_275 : decode cX9_strange 275 = .ok (.iload_n 2, 1) := by decide +kernel
theorem dX9_strange_276 : decode cX9_strange 276 = .ok (.iaload, 1) := by decide +kernel
theorem dX9_strange_277 : decode cX9_strange 277 = .ok (.goto 9, 3) := by decide +kernel
theorem dX9_strange_280 : decode cX9_strange 280 = .ok (.aload_n 0, 1) := by decide +kernel
theorem dX9_strange_281 : decode cX9_strange 281 = .ok (.getfield 34, 3) := by decide +kernel
theorem dX9_strange_284 : decode cX9_strange 284 = .ok (.iload_n 2, 1) := by decide +kernel
theorem dX9_strange_285 : decode cX9_strange 285 = .ok (.iaload, 1) := by decide +kernel
theorem dX9_strange_286 : decode cX9_strange 286 = .ok (.ireturn, 1) := by decide +kernel
set_option maxRecDepth 20000 in
theorem ggX9_hint_X9_isTask : GoodIn wsX9_hint wsX9_isTask := goodIn_r _ [9, 10, 11, 12, 8, 13] (by decide +kernel) (by decide +kernel)
set_option maxRecDepth 20000 in
theorem gX9_hint_X9_isTask : GoodIn wsX9_hint (va_wsS RX9 116 yX9_isTask wsX9_isTask) := goodIn_app (goodIn_of _ (by decide +kernel)) ggX9_hint_X9_isTask
set_option maxRecDepth 20000 in
theorem ggX9_hint_X9_in : GoodIn wsX9_hint wsX9_in := goodIn_r _ [13] (by decide +kernel) (by decide +kernel)
set_option maxRecDepth 20000 in
theorem gX9_hint_X9_in : GoodIn wsX9_hint (va_wsS RX9 102 yX9_in wsX9_in) := goodIn_app (goodIn_of _ (by decide +kernel)) ggX9_hint_X9_in
set_option maxRecDepth 20000 in
theorem ggX9_hint_X9_digitOf : GoodIn wsX9_hint wsX9_digitOf := goodIn_r _ [16] (by decide +kernel) (by decide +kernel)
set_option maxRecDepth 20000 in
theorem gX9_hint_X9_digitOf : GoodIn wsX9_hint (va_wsS RX9 108 yX9_digitOf wsX9_digitOf) := goodIn_app (goodIn_of _ (by decide +kernel)) ggX9_hint_X9_digitOf
theorem dX9_hint_0 : decode cX9_hint 0 = .ok (.iload_n 1, 1) := by decide +kernel
theorem dX9_hint_1 : decode cX9_hint 1 = .ok (.iload_n 2, 1) := by decide +kernel
theorem dX9_hint_2 : decode cX9_hint 2 = .ok (.invokestatic 116, 3) := by decide +kernel
theorem dX9_hint_5 : decode cX9_hint 5 = .ok (.ifCond .eq 49, 3) := by decide +kernel
theorem dX9_hint_8 : decode cX9_hint 8 = .ok (.iload 4, 2) := by decide +kernel
theorem dX9_hint_10 : decode cX9_hint 10 = .ok (.i2l, 1) := by decide +kernel
theorem dX9_hint_11 : decode cX9_hint 11 = .ok (.lconst 0, 1) := by decide +kernel
theorem dX9_hint_12 : decode cX9_hint 12 = .ok (.ldc2_w 128, 3) := by decide +kernel
theorem dX9_hint_15 : decode cX9_hint 15 = .ok (.invokestatic 102, 3) := by decide +kernel
theorem dX9_hint_18 : decode cX9_hint 18 = .ok (.ifCond .eq 36, 3) := by decide +kernel
theorem dX9_hint_21 : decode cX9_hint 21 = .ok (.iload_n 3, 1) := by decide +kernel
theorem dX9_hint_22 : decode cX9_hint 22 = .ok (.i2l, 1) := by decide +kernel
theorem dX9_hint_23 : decode cX9_hint 23 = .ok (.lconst 0, 1) := by decide +kernel
theorem dX9_hint_24 : decode cX9_hint 24 = .ok (.iload 4, 2) := by decide +kernel
theorem dX9_hint_26 : decode cX9_hint 26 = .ok (.ifCond .ne 7, 3) := by decide +kernel
theorem dX9_hint_29 : decode cX9_hint 29 = .ok (.lconst 0, 1) := by decide +kernel
theorem dX9_hint_30 : decode cX9_hint 30 = .ok (.goto 18, 3) := by decide +kernel
theorem dX9_hint_33 : decode cX9_hint 33 = .ok (.iload 4, 2) := by decide +kernel
theorem dX9_hint_35 : decode cX9_hint 35 = .ok (.iconst 1, 1) := by decide +kernel
theorem dX9_hint_36 : decode cX9_hint 36 = .ok (.if_icmp .ne 9, 3) := by decide +kernel
theorem dX9_hint_39 : decode cX9_hint 39 = .ok (.ldc2_w 190, 3) := by decide +kernel
theorem dX9_hint_42 : decode cX9_hint 42 = .ok (.goto 6, 3) := by decide +kernel
theorem dX9_hint_45 : decode cX9_hint 45 = .ok (.ldc2_w 162, 3) := by decide +kernel
theorem dX9_hint_48 : decode cX9_hint 48 = .ok (.invokestatic 102, 3) := by decide +kernel
theorem dX9_hint_51 : decode cX9_hint 51 = .ok (.ifCond .ne 5, 3) := by decide +kernel
theorem dX9_hint_54 : decode cX9_hint 54 = .ok (.iconst (-1), 1) := by decide +kernel
theorem dX9_hint_55 : decode cX9_hint 55 = .ok (.ireturn, 1) := by decide +kernel
theorem dX9_hint_56 : decode cX9_hint 56 = .ok (.aload_n 0, 1) := by decide +kernel
theorem dX9_hint_57 : decode cX9_hint 57 = .ok (.getfield 96, 3) := by decide +kernel
theorem dX9_hint_60 : decode cX9_hint 60 = .ok (.iload_n 1, 1) := by decide +kernel
theorem dX9_hint_61 : decode cX9_hint 61 = .ok (.if_icmp .ne 15, 3) := by decide +kernel
theorem dX9_hint_64 : decode cX9_hint 64 = .ok (.aload_n 0, 1) := by decide +kernel
theorem dX9_hint_65 : decode cX9_hint 65 = .ok (.getfield 192, 3) := by decide +kernel
theorem dX9_hint_68 : decode cX9_hint 68 = .ok (.iload_n 2, 1) := by decide +kernel
theorem dX9_hint_69 : decode cX9_hint 69 = .ok (.if_icmp .ne 7, 3) := by decide +kernel
theorem dX9_hint_72 : decode cX9_hint 72 = .ok (.iconst 1, 1) := by decide +kernel
theorem dX9_hint_73 : decode cX9_hint 73 = .ok (.goto 4, 3) := by decide +kernel
theorem dX9_hint_76 : decode cX9_hint 76 = .ok (.iconst 0, 1) := by decide +kernel
theorem dX9_hint_77 : decode cX9_hint 77 = .ok (.istore 5, 2) := by decide +kernel
theorem dX9_hint_79 : decode cX9_hint 79 = .ok (.aload_n 0, 1) := by decide +kernel
theorem dX9_hint_80 : decode cX9_hint 80 = .ok (.iload_n 1, 1) := by decide +kernel
theorem dX9_hint_81 : decode cX9_hint 81 = .ok (.putfield 96, 3) := by decide +kernel
theorem dX9_hint_84 : decode cX9_hint 84 = .ok (.aload_n 0, 1) := by decide +kernel
theorem dX9_hint_85 : decode cX9_hint 85 = .ok (.iload_n 2, 1) := by decide +kernel
theorem dX9_hint_86 : decode cX9_hint 86 = .ok (.putfield 192, 3) := by decide +kernel
theorem dX9_hint_89 : decode cX9_hint 89 = .ok (.iload_n 1, 1) := by decide +kernel
theorem dX9_hint_90 : decode cX9_hint 90 = .ok (.iload_n 2, 1) := by decide +kernel
theorem dX9_hint_91 : decode cX9_hint 91 = .ok (.isub, 1) := by decide +kernel
theorem dX9_hint_92 : decode cX9_hint 92 = .ok (.istore 6, 2) := by decide +kernel
theorem dX9_hint_94 : decode cX9_hint 94 = .ok (.iload 4, 2) := by decide +kernel
theorem dX9_hint_96 : decode cX9_hint 96 = .ok (.ifCond .ne 7, 3) := by decide +kernel
theorem dX9_hint_99 : decode cX9_hint 99 = .ok (.iconst 0, 1) := by decide +kernel
theorem dX9_hint_100 : decode cX9_hint 100 = .ok (.goto 22, 3) := by decide +kernel
theorem dX9_hint_103 : decode cX9_hint 103 = .ok (.iload 4, 2) := by decide +kernel
theorem dX9_hint_105 : decode cX9_hint 105 = .ok (.iconst 1, 1) := by decide +kernel
theorem dX9_hint_106 : decode cX9_hint 106 = .ok (.if_icmp .ne 11, 3) := by decide +kernel
theorem dX9_hint_109 : decode cX9_hint 109 = .ok (.iload 6, 2) := by decide +kernel
theorem dX9_hint_111 : decode cX9_hint 111 = .ok (.bipush 10, 2) := by decide +kernel
theorem dX9_hint_113 : decode cX9_hint 113 = .ok (.irem, 1) := by decide +kernel
theorem dX9_hint_114 : decode cX9_hint 114 = .ok (.goto 8, 3) := by decide +kernel
theorem dX9_hint_117 : decode cX9_hint 117 = .ok (.iload 6, 2) := by decide +kernel
