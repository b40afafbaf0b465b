theorem dX8_parse_154 : decode cX8_parse 154 = .ok (.istore_n 1, 1) := by decide +kernel
theorem dX8_parse_155 : decode cX8_parse 155 = .ok (.goto 170, 3) := by decide +kernel
theorem dX8_parse_158 : decode cX8_parse 158 = .ok (.iload 6, 2) := by decide +kernel
theorem dX8_parse_160 : decode cX8_parse 160 = .ok (.iload_n 2, 1) := by decide +kernel
theorem dX8_parse_161 : decode cX8_parse 161 = .ok (.if_icmp .le 26, 3) := by decide +kernel
theorem dX8_parse_164 : decode cX8_parse 164 = .ok (.iload 6, 2) := by decide +kernel
theorem dX8_parse_166 : decode cX8_parse 166 = .ok (.aload_n 0, 1) := by decide +kernel
theorem dX8_parse_167 : decode cX8_parse 167 = .ok (.getfield 112, 3) := by decide +kernel
theorem dX8_parse_170 : decode cX8_parse 170 = .ok (.if_icmp .ge 17, 3) := by decide +kernel
theorem dX8_parse_173 : decode cX8_parse 173 = .ok (.aload_n 0, 1) := by decide +kernel
theorem dX8_parse_174 : decode cX8_parse 174 = .ok (.iload_n 2, 1) := by decide +kernel
theorem dX8_parse_175 : decode cX8_parse 175 = .ok (.iload 6, 2) := by decide +kernel
theorem dX8_parse_177 : decode cX8_parse 177 = .ok (.invokevirtual 118, 3) := by decide +kernel
theorem dX8_parse_180 : decode cX8_parse 180 = .ok (.ifCond .ne 7, 3) := by decide +kernel
theorem dX8_parse_183 : decode cX8_parse 183 = .ok (.iconst 1, 1) := by decide +kernel
theorem dX8_parse_184 : decode cX8_parse 184 = .ok (.goto 4, 3) := by decide +kernel
theorem dX8_parse_187 : decode cX8_parse 187 = .ok (.iconst 0, 1) := by decide +kernel
theorem dX8_parse_188 : decode cX8_parse 188 = .ok (.istore 4, 2) := by decide +kernel
theorem dX8_parse_190 : decode cX8_parse 190 = .ok (.iload 6, 2) := by decide +kernel
theorem dX8_parse_192 : decode cX8_parse 192 = .ok (.istore_n 3, 1) := by decide +kernel
theorem dX8_parse_193 : decode cX8_parse 193 = .ok (.iconst 4, 1) := by decide +kernel
theorem dX8_parse_194 : decode cX8_parse 194 = .ok (.istore_n 1, 1) := by decide +kernel
theorem dX8_parse_195 : decode cX8_parse 195 = .ok (.goto 130, 3) := by decide +kernel
theorem dX8_parse_198 : decode cX8_parse 198 = .ok (.iload 6, 2) := by decide +kernel
theorem dX8_parse_200 : decode cX8_parse 200 = .ok (.ifCond .le 7, 3) := by decide +kernel
theorem dX8_parse_203 : decode cX8_parse 203 = .ok (.iconst 1, 1) := by decide +kernel
theorem dX8_parse_204 : decode cX8_parse 204 = .ok (.goto 4, 3) := by decide +kernel
theorem dX8_parse_207 : decode cX8_parse 207 = .ok (.iconst 0, 1) := by decide +kernel
theorem dX8_parse_208 : decode cX8_parse 208 = .ok (.istore 4, 2) := by decide +kernel
theorem dX8_parse_210 : decode cX8_parse 210 = .ok (.iload 4, 2) := by decide +kernel
theorem dX8_parse_212 : decode cX8_parse 212 = .ok (.ifCond .eq 54, 3) := by decide +kernel
theorem dX8_parse_215 : decode cX8_parse 215 = .ok (.aload_n 0, 1) := by decide +kernel
theorem dX8_parse_216 : decode cX8_parse 216 = .ok (.getfield 81, 3) := by decide +kernel
theorem dX8_parse_219 : decode cX8_parse 219 = .ok (.aload_n 0, 1) := by decide +kernel
theorem dX8_parse_220 : decode cX8_parse 220 = .ok (.getfield 109, 3) := by decide +kernel
theorem dX8_parse_223 : decode cX8_parse 223 = .ok (.iload_n 2, 1) := by decide +kernel
theorem dX8_parse_224 : decode cX8_parse 224 = .ok (.iastore, 1) := by decide +kernel
theorem dX8_parse_225 : decode cX8_parse 225 = .ok (.aload_n 0, 1) := by decide +kernel
theorem dX8_parse_226 : decode cX8_parse 226 = .ok (.getfield 84, 3) := by decide +kernel
theorem dX8_parse_229 : decode cX8_parse 229 = .ok (.aload_n 0, 1) := by decide +kernel
theorem dX8_parse_230 : decode cX8_parse 230 = .ok (.getfield 109, 3) := by decide +kernel
theorem dX8_parse_233 : decode cX8_parse 233 = .ok (.iload_n 3, 1) := by decide +kernel
theorem dX8_parse_234 : decode cX8_parse 234 = .ok (.iastore, 1) := by decide +kernel
theorem dX8_parse_235 : decode cX8_parse 235 = .ok (.aload_n 0, 1) := by decide +kernel
theorem dX8_parse_236 : decode cX8_parse 236 = .ok (.getfield 87, 3) := by decide +kernel
theorem dX8_parse_239 : decode cX8_parse 239 = .ok (.aload_n 0, 1) := by decide +kernel
theorem dX8_parse_240 : decode cX8_parse 240 = .ok (.getfield 109, 3) := by decide +kernel
theorem dX8_parse_243 : decode cX8_parse 243 = .ok (.iload 6, 2) := by decide +kernel
theorem dX8_parse_245 : decode cX8_parse 245 = .ok (.iastore, 1) := by decide +kernel
theorem dX8_parse_246 : decode cX8_parse 246 = .ok (.aload_n 0, 1) := by decide +kernel
theorem dX8_parse_247 : decode cX8_parse 247 = .ok (.getfield 90, 3) := by decide +kernel
theorem dX8_parse_250 : decode cX8_parse 250 = .ok (.aload_n 0, 1) := by decide +kernel
theorem dX8_parse_251 : decode cX8_parse 251 = .ok (.getfield 109, 3) := by decide +kernel
theorem dX8_parse_254 : decode cX8_parse 254 = .ok (.iconst 0, 1) := by decide +kernel
theorem dX8_parse_255 : decode cX8_parse 255 = .ok (.iastore, 1) := by decide +kernel
theorem dX8_parse_256 : decode cX8_parse 256 = .ok (.aload_n 0, 1) := by decide +kernel
theorem dX8_parse_257 : decode cX8_parse 257 = .ok (.dup, 1) := by decide +kernel
theorem dX8_parse_258 : decode cX8_parse 258 = .ok (.getfield 109, 3) := by decide +kernel
theorem dX8_parse_261 : decode cX8_parse 261 = .ok (.iconst 1, 1) := by decide +kernel
theorem dX8_parse_262 : decode cX8_parse 262 = .ok (.iadd, 1) := by decide +kernel
theorem dX8_parse_263 : decode cX8_parse 263 = .ok (.putfield 109, 3) := by decide +kernel
theorem dX8_parse_266 : decode cX8_parse 266 = .ok (.iconst 5, 1) := by decide +kernel
theorem dX8_parse_267 : decode cX8_parse 267 = .ok (.istore_n 1, 1) := by decide +kernel
theorem dX8_parse_268 : decode cX8_parse 268 = .ok (.goto 57, 3) := by decide +kernel
theorem dX8_parse_271 : decode cX8_parse 271 = .ok (.iload_n 1, 1) := by decide +kernel
theorem dX8_parse_272 : decode cX8_parse 272 = .ok (.iconst 5, 1) := by decide +kernel
theorem dX8_parse_273 : decode cX8_parse 273 = .ok (.if_icmp .ne 27, 3) := by decide +kernel
theorem dX8_parse_276 : decode cX8_parse 276 = .ok (.iload 6, 2) := by decide +kernel
theorem dX8_parse_278 : decode cX8_parse 278 = .ok (.iconst 1, 1) := by decide +kernel
theorem dX8_parse_279 : decode cX8_parse 279 = .ok (.if_icmp .le 21, 3) := by decide +kernel
theorem dX8_parse_282 : decode cX8_parse 282 = .ok (.aload_n 0, 1) := by decide +kernel
theorem dX8_parse_283 : decode cX8_parse 283 = .ok (.getfield 90, 3) := by decide +kernel
theorem dX8_parse_286 : decode cX8_parse 286 = .ok (.aload_n 0, 1) := by decide +kernel
theorem dX8_parse_287 : decode cX8_parse 287 = .ok (.getfield 109, 3) := by decide +kernel
theorem dX8_parse_290 : decode cX8_parse 290 = .ok (.iconst 1, 1) := by decide +kernel
theorem dX8_parse_291 : decode cX8_parse 291 = .ok (.isub, 1) := by decide +kernel
theorem dX8_parse_292 : decode cX8_parse 292 = .ok (.iload 6, 2) := by decide +kernel
theorem dX8_parse_294 : decode cX8_parse 294 = .ok (.iastore, 1) := by decide +kernel
theorem dX8_parse_295 : decode cX8_parse 295 = .ok (.iconst 1, 1) := by decide +kernel
theorem dX8_parse_296 : decode cX8_parse 296 = .ok (.istore_n 1, 1) := by decide +kernel
theorem dX8_parse_297 : decode cX8_parse 297 = .ok (.goto 28, 3) := by decide +kernel
theorem dX8_parse_300 : decode cX8_parse 300 = .ok (.iload 5, 2) := by decide +kernel
theorem dX8_parse_302 : decode cX8_parse 302 = .ok (.bipush 59, 2) := by decide +kernel
theorem dX8_parse_304 : decode cX8_parse 304 = .ok (.if_icmp .ne 16, 3) := by decide +kernel
theorem dX8_parse_307 : decode cX8_parse 307 = .ok (.aload_n 0, 1) := by decide +kernel
theorem dX8_parse_308 : decode cX8_parse 308 = .ok (.getfield 109, 3) := by decide +kernel
theorem dX8_parse_311 : decode cX8_parse 311 = .ok (.bipush 12, 2) := by decide +kernel
theorem dX8_parse_313 : decode cX8_parse 313 = .ok (.if_icmp .ge 7, 3) := by decide +kernel
theorem dX8_parse_316 : decode cX8_parse 316 = .ok (.iconst 1, 1) := by decide +kernel
theorem dX8_parse_317 : decode cX8_parse 317 = .ok (.goto 4, 3) := by decide +kernel
theorem dX8_parse_320 : decode cX8_parse 320 = .ok (.iconst 0, 1) := by decide +kernel
theorem dX8_parse_321 : decode cX8_parse 321 = .ok (.istore 4, 2) := by decide +kernel
theorem dX8_parse_323 : decode cX8_parse 323 = .ok (.iconst 2, 1) := by decide +kernel
theorem dX8_parse_324 : decode cX8_parse 324 = .ok (.istore_n 1, 1) := by decide +kernel
theorem dX8_parse_325 : decode cX8_parse 325 = .ok (.aload_n 0, 1) := by decide +kernel
theorem dX8_parse_326 : decode cX8_parse 326 = .ok (.dup, 1) := by decide +kernel
theorem dX8_parse_327 : decode cX8_parse 327 = .ok (.getfield 115, 3) := by decide +kernel
theorem dX8_parse_330 : decode cX8_parse 330 = .ok (.iload 4, 2) := by decide +kernel
theorem dX8_parse_332 : decode cX8_parse 332 = .ok (.ifCond .eq 7, 3) := by decide +kernel
theorem dX8_parse_335 : decode cX8_parse 335 = .ok (.iconst 1, 1) := by decide +kernel
theorem dX8_parse_336 : decode cX8_parse 336 = .ok (.goto 4, 3) := by decide +kernel
theorem dX8_parse_339 : decode cX8_parse 339 = .ok (.iconst 0, 1) := by decide +kernel
theorem dX8_parse_340 : decode cX8_parse 340 = .ok (.iadd, 1) := by decide +kernel
theorem dX8_parse_341 : decode cX8_parse 341 = .ok (.putfield 115, 3) := by decide +kernel
theorem dX8_parse_344 : decode cX8_parse 344 = .ok (.goto (-320), 3) := by decide +kernel
theorem dX8_parse_347 : decode cX8_parse 347 = .ok (.aload_n 0, 1) := by decide +kernel
theorem dX8_parse_348 : decode cX8_parse 348 = .ok (.iload 4, 2) := by decide +kernel
theorem dX8_parse_350 : decode cX8_parse 350 = .ok (.ifCond .eq 17, 3) := by decide +kernel
theorem dX8_parse_353 : decode cX8_parse 353 = .ok (.iload_n 1, 1) := by decide +kernel
theorem dX8_parse_354 : decode cX8_parse 354 = .ok (.iconst 1, 1) := by decide +kernel
theorem dX8_parse_355 : decode cX8_parse 355 = .ok (.if_icmp .eq 8, 3) := by decide +kernel
theorem dX8_parse_358 : decode cX8_parse 358 = .ok (.iload_n 1, 1) := by decide +kernel
theorem dX8_parse_359 : decode cX8_parse 359 = .ok (.iconst 5, 1) := by decide +kernel
theorem dX8_parse_360 : decode cX8_parse 360 = .ok (.if_icmp .ne 7, 3) := by decide +kernel
theorem dX8_parse_363 : decode cX8_parse 363 = .ok (.iconst 1, 1) := by decide +kernel
theorem dX8_parse_364 : decode cX8_parse 364 = .ok (.goto 4, 3) := by decide +kernel
theorem dX8_parse_367 : decode cX8_parse 367 = .ok (.iconst 0, 1) := by decide +kernel
theorem dX8_parse_368 : decode cX8_parse 368 = .ok (.putfield 122, 3) := by decide +kernel
theorem dX8_parse_371 : decode cX8_parse 371 = .ok (.return_, 1) := by decide +kernel
set_option maxRecDepth 20000 in
theorem ggX8_errorPosition_X8_parse : GoodIn wsX8_errorPosition wsX8_parse := goodIn_r _ [6, 7, 8, 1, 9, 10, 11, 12, 13, 14, 15, 16, 17, 5, 18, 19, 20, 21, 22, 23, 24, 25, 26, 27, 28, 29, 30, 31, 32, 33, 34, 35, 36, 37, 38, 39, 40, 41, 42, 43, 44, 45, 46, 47, 48, 49, 50, 51, 52, 53, 54, 55, 56, 57, 58, 59, 60, 61, 62, 63, 64] (by decide +kernel) (by decide +kernel)
set_option maxRecDepth 20000 in
theorem gX8_errorPosition_X8_parse : GoodIn wsX8_errorPosition (wsV RX8 126 RX8 yX8_parse wsX8_parse) := goodIn_app (goodIn_of _ (by decide +kernel)) ggX8_errorPosition_X8_parse
theorem dX8_errorPosition_0 : decode cX8_errorPosition 0 = .ok (.aload_n 0, 1) := by decide +kernel
theorem dX8_errorPosition_1 : decode cX8_errorPosition 1 = .ok (.invokevirtual 126, 3) := by decide +kernel
theorem dX8_errorPosition_4 : decode cX8_errorPosition 4 = .ok (.aload_n 0, 1) := by decide +kernel
theorem dX8_errorPosition_5 : decode cX8_errorPosition 5 = .ok (.getfield 115, 3) := by decide +kernel
theorem dX8_errorPosition_8 : decode cX8_errorPosition 8 = .ok (.ireturn, 1) := by decide +kernel
set_option maxRecDepth 20000 in
theorem ggX8_loadNetwork_X8_parse : GoodIn wsX8_loadNetwork wsX8_parse := goodIn_r _ [26, 2, 4, 27, 21, 28, 7, 9, 11, 13, 1, 29, 30, 25, 31, 32, 33, 34, 35, 43, 44, 45, 46, 47, 48, 49, 50, 51, 52, 53, 54, 55, 56, 57, 58, 59, 60, 61, 62, 63, 64, 65, 66, 67, 68, 69, 70, 71, 72, 73, 74, 75, 76, 77, 78, 79, 80, 81, 82, 83, 84] (by decide +kernel) (by decide +kernel)
set_option maxRecDepth 20000 in
theorem gX8_loadNetwork_X8_parse : GoodIn wsX8_loadNetwork (wsV RX8 126 RX8 yX8_parse wsX8_parse) := goodIn_app (goodIn_of _ (by decide +kernel)) ggX8_loadNetwork_X8_parse
set_option maxRecDepth 20000 in
theorem ggX8_loadNetwork_X8_forgetFlood : GoodIn wsX8_loadNetwork wsX8_forgetFlood := goodIn_r _ [39, 40, 41, 42, 43, 44, 45, 46, 47, 48, 49, 50, 51, 52, 53, 54, 55, 56, 57, 58, 59, 60, 61, 62, 63, 64, 65, 66, 67, 68, 69, 70, 71, 72, 73, 74, 75, 76, 77, 78, 79, 80, 81, 82, 83, 84] (by decide +kernel) (by decide +kernel)
set_option maxRecDepth 20000 in
theorem gX8_loadNetwork_X8_forgetFlood : GoodIn wsX8_loadNetwork (wsV RX8 135 RX8 yX8_forgetFlood wsX8_forgetFlood) := goodIn_app (goodIn_of _ (by decide +kernel)) ggX8_loadNetwork_X8_forgetFlood
theorem dX8_loadNetwork_0 : decode cX8_loadNetwork 0 = .ok (.aload_n 0, 1) := by decide +kernel
theorem dX8_loadNetwork_1 : decode cX8_loadNetwork 1 = .ok (.invokevirtual 126, 3) := by decide +kernel
theorem dX8_loadNetwork_4 : decode cX8_loadNetwork 4 = .ok (.aload_n 0, 1) := by decide +kernel
theorem dX8_loadNetwork_5 : decode cX8_loadNetwork 5 = .ok (.getfield 122, 3) := by decide +kernel
theorem dX8_loadNetwork_8 : decode cX8_loadNetwork 8 = .ok (.ifCond .ne 7, 3) := by decide +kernel
theorem dX8_loadNetwork_11 : decode cX8_loadNetwork 11 = .ok (.sipush (-1003), 3) := by decide +kernel
theorem dX8_loadNetwork_14 : decode cX8_loadNetwork 14 = .ok (.ireturn, 1) := by decide +kernel
theorem dX8_loadNetwork_15 : decode cX8_loadNetwork 15 = .ok (.aload_n 0, 1) := by decide +kernel
theorem dX8_loadNetwork_16 : decode cX8_loadNetwork 16 = .ok (.aload_n 0, 1) := by decide +kernel
theorem dX8_loadNetwork_17 : decode cX8_loadNetwork 17 = .ok (.getfield 112, 3) := by decide +kernel
theorem dX8_loadNetwork_20 : decode cX8_loadNetwork 20 = .ok (.putfield 129, 3) := by decide +kernel
theorem dX8_loadNetwork_23 : decode cX8_loadNetwork 23 = .ok (.aload_n 0, 1) := by decide +kernel
theorem dX8_loadNetwork_24 : decode cX8_loadNetwork 24 = .ok (.aload_n 0, 1) := by decide +kernel
theorem dX8_loadNetwork_25 : decode cX8_loadNetwork 25 = .ok (.getfield 109, 3) := by decide +kernel
theorem dX8_loadNetwork_28 : decode cX8_loadNetwork 28 = .ok (.putfield 132, 3) := by decide +kernel
theorem dX8_loadNetwork_31 : decode cX8_loadNetwork 31 = .ok (.iconst 0, 1) := by decide +kernel
theorem dX8_loadNetwork_32 : decode cX8_loadNetwork 32 = .ok (.istore_n 1, 1) := by decide +kernel
theorem dX8_loadNetwork_33 : decode cX8_loadNetwork 33 = .ok (.iload_n 1, 1) := by decide +kernel
theorem dX8_loadNetwork_34 : decode cX8_loadNetwork 34 = .ok (.aload_n 0, 1) := by decide +kernel
theorem dX8_loadNetwork_35 : decode cX8_loadNetwork 35 = .ok (.getfield 132, 3) := by decide +kernel
theorem dX8_loadNetwork_38 : decode cX8_loadNetwork 38 = .ok (.if_icmp .ge 57, 3) := by decide +kernel
theorem dX8_loadNetwork_41 : decode cX8_loadNetwork 41 = .ok (.aload_n 0, 1) := by decide +kernel
theorem dX8_loadNetwork_42 : decode cX8_loadNetwork 42 = .ok (.getfield 13, 3) := by decide +kernel
theorem dX8_loadNetwork_45 : decode cX8_loadNetwork 45 = .ok (.iload_n 1, 1) := by decide +kernel
theorem dX8_loadNetwork_46 : decode cX8_loadNetwork 46 = .ok (.aload_n 0, 1) := by decide +kernel
theorem dX8_loadNetwork_47 : decode cX8_loadNetwork 47 = .ok (.getfield 81, 3) := by decide +kernel
theorem dX8_loadNetwork_50 : decode cX8_loadNetwork 50 = .ok (.iload_n 1, 1) := by decide +kernel
theorem dX8_loadNetwork_51 : decode cX8_loadNetwork 51 = .ok (.iaload, 1) := by decide +kernel
theorem dX8_loadNetwork_52 : decode cX8_loadNetwork 52 = .ok (.iastore, 1) := by decide +kernel
theorem dX8_loadNetwork_53 : decode cX8_loadNetwork 53 = .ok (.aload_n 0, 1) := by decide +kernel
theorem dX8_loadNetwork_54 : decode cX8_loadNetwork 54 = .ok (.getfield 16, 3) := by decide +kernel
theorem dX8_loadNetwork_57 : decode cX8_loadNetwork 57 = .ok (.iload_n 1, 1) := by decide +kernel
theorem dX8_loadNetwork_58 : decode cX8_loadNetwork 58 = .ok (.aload_n 0, 1) := by decide +kernel
theorem dX8_loadNetwork_59 : decode cX8_loadNetwork 59 = .ok (.getfield 84, 3) := by decide +kernel
theorem dX8_loadNetwork_62 : decode cX8_loadNetwork 62 = .ok (.iload_n 1, 1) := by decide +kernel
theorem dX8_loadNetwork_63 : decode cX8_loadNetwork 63 = .ok (.iaload, 1) := by decide +kernel
theorem dX8_loadNetwork_64 : decode cX8_loadNetwork 64 = .ok (.iastore, 1) := by decide +kernel
theorem dX8_loadNetwork_65 : decode cX8_loadNetwork 65 = .ok (.aload_n 0, 1) := by decide +kernel
theorem dX8_loadNetwork_66 : decode cX8_loadNetwork 66 = .ok (.getfield 19, 3) := by decide +kernel
theorem dX8_loadNetwork_69 : decode cX8_loadNetwork 69 = .ok (.iload_n 1, 1) := by decide +kernel
theorem dX8_loadNetwork_70 : decode cX8_loadNetwork 70 = .ok (.aload_n 0, 1) := by decide +kernel
theorem dX8_loadNetwork_71 : decode cX8_loadNetwork 71 = .ok (.getfield 87, 3) := by decide +kernel
theorem dX8_loadNetwork_74 : decode cX8_loadNetwork 74 = .ok (.iload_n 1, 1) := by decide +kernel
theorem dX8_loadNetwork_75 : decode cX8_loadNetwork 75 = .ok (.iaload, 1) := by decide +kernel
theorem dX8_loadNetwork_76 : decode cX8_loadNetwork 76 = .ok (.iastore, 1) := by decide +kernel
theorem dX8_loadNetwork_77 : decode cX8_loadNetwork 77 = .ok (.aload_n 0, 1) := by decide +kernel
theorem dX8_loadNetwork_78 : decode cX8_loadNetwork 78 = .ok (.getfield 22, 3) := by decide +kernel
theorem dX8_loadNetwork_81 : decode cX8_loadNetwork 81 = .ok (.iload_n 1, 1) := by decide +kernel
theorem dX8_loadNetwork_82 : decode cX8_loadNetwork 82 = .ok (.aload_n 0, 1) := by decide +kernel
theorem dX8_loadNetwork_83 : decode cX8_loadNetwork 83 = .ok (.getfield 90, 3) := by decide +kernel
theorem dX8_loadNetwork_86 : decode cX8_loadNetwork 86 = .ok (.iload_n 1, 1) := by decide +kernel
theorem dX8_loadNetwork_87 : decode cX8_loadNetwork 87 = .ok (.iaload, 1) := by decide +kernel
theorem dX8_loadNetwork_88 : decode cX8_loadNetwork 88 = .ok (.iastore, 1) := by decide +kernel
theorem dX8_loadNetwork_89 : decode cX8_loadNetwork 89 = .ok (.iinc 1 1, 3) := by decide +kernel
theorem dX8_loadNetwork_92 : decode cX8_loadNetwork 92 = .ok (.goto (-59), 3) := by decide +kernel
theorem dX8_loadNetwork_95 : decode cX8_loadNetwork 95 = .ok (.iconst 0, 1) := by decide +kernel
theorem dX8_loadNetwork_96 : decode cX8_loadNetwork 96 = .ok (.istore_n 1, 1) := by decide +kernel
theorem dX8_loadNetwork_97 : decode cX8_loadNetwork 97 = .ok (.iload_n 1, 1) := by decide +kernel
theorem dX8_loadNetwork_98 : decode cX8_loadNetwork 98 = .ok (.bipush 8, 2) := by decide +kernel
theorem dX8_loadNetwork_100 : decode cX8_loadNetwork 100 = .ok (.if_icmp .ge 30, 3) := by decide +kernel
theorem dX8_loadNetwork_103 : decode cX8_loadNetwork 103 = .ok (.aload_n 0, 1) := by decide +kernel
theorem dX8_loadNetwork_104 : decode cX8_loadNetwork 104 = .ok (.getfield 25, 3) := by decide +kernel
theorem dX8_loadNetwork_107 : decode cX8_loadNetwork 107 = .ok (.iload_n 1, 1) := by decide +kernel
theorem dX8_loadNetwork_108 : decode cX8_loadNetwork 108 = .ok (.iconst 1, 1) := by decide +kernel
theorem dX8_loadNetwork_109 : decode cX8_loadNetwork 109 = .ok (.bastore, 1) := by decide +kernel
theorem dX8_loadNetwork_110 : decode cX8_loadNetwork 110 = .ok (.aload_n 0, 1) := by decide +kernel
theorem dX8_loadNetwork_111 : decode cX8_loadNetwork 111 = .ok (.getfield 35, 3) := by decide +kernel
theorem dX8_loadNetwork_114 : decode cX8_loadNetwork 114 = .ok (.iload_n 1, 1) := by decide +kernel
theorem dX8_loadNetwork_115 : decode cX8_loadNetwork 115 = .ok (.iconst 0, 1) := by decide +kernel
theorem dX8_loadNetwork_116 : decode cX8_loadNetwork 116 = .ok (.iastore, 1) := by decide +kernel
theorem dX8_loadNetwork_117 : decode cX8_loadNetwork 117 = .ok (.aload_n 0, 1) := by decide +kernel
theorem dX8_loadNetwork_118 : decode cX8_loadNetwork 118 = .ok (.getfield 38, 3) := by decide +kernel
theorem dX8_loadNetwork_121 : decode cX8_loadNetwork 121 = .ok (.iload_n 1, 1) := by decide +kernel
theorem dX8_loadNetwork_122 : decode cX8_loadNetwork 122 = .ok (.iconst 0, 1) := by decide +kernel
theorem dX8_loadNetwork_123 : decode cX8_loadNetwork 123 = .ok (.iastore, 1) := by decide +kernel
theorem dX8_loadNetwork_124 : decode cX8_loadNetwork 124 = .ok (.iinc 1 1, 3) := by decide +kernel
theorem dX8_loadNetwork_127 : decode cX8_loadNetwork 127 = .ok (.goto (-30), 3) := by decide +kernel
theorem dX8_loadNetwork_130 : decode cX8_loadNetwork 130 = .ok (.aload_n 0, 1) := by decide +kernel
theorem dX8_loadNetwork_131 : decode cX8_loadNetwork 131 = .ok (.invokevirtual 135, 3) := by decide +kernel
theorem dX8_loadNetwork_134 : decode cX8_loadNetwork 134 = .ok (.aload_n 0, 1) := by decide +kernel
theorem dX8_loadNetwork_135 : decode cX8_loadNetwork 135 = .ok (.iconst 0, 1) := by decide +kernel
theorem dX8_loadNetwork_136 : decode cX8_loadNetwork 136 = .ok (.putfield 41, 3) := by decide +kernel
theorem dX8_loadNetwork_139 : decode cX8_loadNetwork 139 = .ok (.aload_n 0, 1) := by decide +kernel
theorem dX8_loadNetwork_140 : decode cX8_loadNetwork 140 = .ok (.iconst 0, 1) := by decide +kernel
theorem dX8_loadNetwork_141 : decode cX8_loadNetwork 141 = .ok (.putfield 138, 3) := by decide +kernel
theorem dX8_loadNetwork_144 : decode cX8_loadNetwork 144 = .ok (.aload_n 0, 1) := by decide +kernel
theorem dX8_loadNetwork_145 : decode cX8_loadNetwork 145 = .ok (.iconst 0, 1) := by decide +kernel
theorem dX8_loadNetwork_146 : decode cX8_loadNetwork 146 = .ok (.putfield 141, 3) := by decide +kernel
theorem dX8_loadNetwork_149 : decode cX8_loadNetwork 149 = .ok (.aload_n 0, 1) := by decide +kernel
theorem dX8_loadNetwork_150 : decode cX8_loadNetwork 150 = .ok (.iconst 0, 1) := by decide +kernel
theorem dX8_loadNetwork_151 : decode cX8_loadNetwork 151 = .ok (.putfield 144, 3) := by decide +kernel
theorem dX8_loadNetwork_154 : decode cX8_loadNetwork 154 = .ok (.aload_n 0, 1) := by decide +kernel
theorem dX8_loadNetwork_155 : decode cX8_loadNetwork 155 = .ok (.iconst 0, 1) := by decide +kernel
theorem dX8_loadNetwork_156 : decode cX8_loadNetwork 156 = .ok (.putfield 106, 3) := by decide +kernel
theorem dX8_loadNetwork_159 : decode cX8_loadNetwork 159 = .ok (.aload_n 0, 1) := by decide +kernel
theorem dX8_loadNetwork_160 : decode cX8_loadNetwork 160 = .ok (.getfield 129, 3) := by decide +kernel
theorem dX8_loadNetwork_163 : decode cX8_loadNetwork 163 = .ok (.ireturn, 1) := by decide +kernel
set_option maxRecDepth 20000 in
theorem ggX8_setTransmissionLimit_X8_within : GoodIn wsX8_setTransmissionLimit wsX8_within := goodIn_r _ [5] (by decide +kernel) (by decide +kernel)
set_option maxRecDepth 20000 in
theorem gX8_setTransmissionLimit_X8_within : GoodIn wsX8_setTransmissionLimit (va_wsS RX8 102 yX8_within wsX8_within) := goodIn_app (goodIn_of _ (by decide +kernel)) ggX8_setTransmissionLimit_X8_within
theorem dX8_setTransmissionLimit_0 : decode cX8_setTransmissionLimit 0 = .ok (.iload_n 1, 1) := by decide +kernel
theorem dX8_setTransmissionLimit_1 : decode cX8_setTransmissionLimit 1 = .ok (.iconst 1, 1) := by decide +kernel
theorem dX8_setTransmissionLimit_2 : decode cX8_setTransmissionLimit 2 = .ok (.iconst 4, 1) := by decide +kernel
theorem dX8_setTransmissionLimit_3 : decode cX8_setTransmissionLimit 3 = .ok (.invokestatic 102, 3) := by decide +kernel
theorem dX8_setTransmissionLimit_6 : decode cX8_setTransmissionLimit 6 = .ok (.ifCond .ne 7, 3) := by decide +kernel
theorem dX8_setTransmissionLimit_9 : decode cX8_setTransmissionLimit 9 = .ok (.sipush (-1002), 3) := by decide +kernel
theorem dX8_setTransmissionLimit_12 : decode cX8_setTransmissionLimit 12 = .ok (.ireturn, 1) := by decide +kernel
theorem dX8_setTransmissionLimit_13 : decode cX8_setTransmissionLimit 13 = .ok (.aload_n 0, 1) := by decide +kernel
theorem dX8_setTransmissionLimit_14 : decode cX8_setTransmissionLimit 14 = .ok (.getfield 45, 3) := by decide +kernel
theorem dX8_setTransmissionLimit_17 : decode cX8_setTransmissionLimit 17 = .ok (.istore_n 2, 1) := by decide +kernel
theorem dX8_setTransmissionLimit_18 : decode cX8_setTransmissionLimit 18 = .ok (.aload_n 0, 1) := by decide +kernel
theorem dX8_setTransmissionLimit_19 : decode cX8_setTransmissionLimit 19 = .ok (.iload_n 1, 1) := by decide +kernel
theorem dX8_setTransmissionLimit_20 : decode cX8_setTransmissionLimit 20 = .ok (.putfield 45, 3) := by decide +kernel
theorem dX8_setTransmissionLimit_23 : decode cX8_setTransmissionLimit 23 = .ok (.iload_n 2, 1) := by decide +kernel
theorem dX8_setTransmissionLimit_24 : decode cX8_setTransmissionLimit 24 = .ok (.ireturn, 1) := by decide +kernel
set_option maxRecDepth 20000 in
theorem ggX8_setCaptureMargin_X8_within : GoodIn wsX8_setCaptureMargin wsX8_within := goodIn_r _ [5] (by decide +kernel) (by decide +kernel)
set_option maxRecDepth 20000 in
theorem gX8_setCaptureMargin_X8_within : GoodIn wsX8_setCaptureMargin (va_wsS RX8 102 yX8_within wsX8_within) := goodIn_app (goodIn_of _ (by decide +kernel)) ggX8_setCaptureMargin_X8_within
theorem dX8_setCaptureMargin_0 : decode cX8_setCaptureMargin 0 = .ok (.iload_n 1, 1) := by decide +kernel
theorem dX8_setCaptureMargin_1 : decode cX8_setCaptureMargin 1 = .ok (.iconst 1, 1) := by decide +kernel
theorem dX8_setCaptureMargin_2 : decode cX8_setCaptureMargin 2 = .ok (.bipush 9, 2) := by decide +kernel
theorem dX8_setCaptureMargin_4 : decode cX8_setCaptureMargin 4 = .ok (.invokestatic 102, 3) := by decide +kernel
theorem dX8_setCaptureMargin_7 : decode cX8_setCaptureMargin 7 = .ok (.ifCond .ne 7, 3) := by decide +kernel
theorem dX8_setCaptureMargin_10 : decode cX8_setCaptureMargin 10 = .ok (.sipush (-1002), 3) := by decide +kernel
theorem dX8_setCaptureMargin_13 : decode cX8_setCaptureMargin 13 = .ok (.ireturn, 1) := by decide +kernel
theorem dX8_setCaptureMargin_14 : decode cX8_setCaptureMargin 14 = .ok (.aload_n 0, 1) := by decide +kernel
theorem dX8_setCaptureMargin_15 : decode cX8_setCaptureMargin 15 = .ok (.getfield 48, 3) := by decide +kernel
theorem dX8_setCaptureMargin_18 : decode cX8_setCaptureMargin 18 = .ok (.istore_n 2, 1) := by decide +kernel
theorem dX8_setCaptureMargin_19 : decode cX8_setCaptureMargin 19 = .ok (.aload_n 0, 1) := by decide +kernel
theorem dX8_setCaptureMargin_20 : decode cX8_setCaptureMargin 20 = .ok (.iload_n 1, 1) := by decide +kernel
theorem dX8_setCaptureMargin_21 : decode cX8_setCaptureMargin 21 = .ok (.putfield 48, 3) := by decide +kernel
theorem dX8_setCaptureMargin_24 : decode cX8_setCaptureMargin 24 = .ok (.iload_n 2, 1) := by decide +kernel
theorem dX8_setCaptureMargin_25 : decode cX8_setCaptureMargin 25 = .ok (.ireturn, 1) := by decide +kernel
set_option maxRecDepth 20000 in
theorem ggX8_setSlotLimit_X8_within : GoodIn wsX8_setSlotLimit wsX8_within := goodIn_r _ [5] (by decide +kernel) (by decide +kernel)
set_option maxRecDepth 20000 in
theorem gX8_setSlotLimit_X8_within : GoodIn wsX8_setSlotLimit (va_wsS RX8 102 yX8_within wsX8_within) := goodIn_app (goodIn_of _ (by decide +kernel)) ggX8_setSlotLimit_X8_within
theorem dX8_setSlotLimit_0 : decode cX8_setSlotLimit 0 = .ok (.iload_n 1, 1) := by decide +kernel
theorem dX8_setSlotLimit_1 : decode cX8_setSlotLimit 1 = .ok (.iconst 0, 1) := by decide +kernel
theorem dX8_setSlotLimit_2 : decode cX8_setSlotLimit 2 = .ok (.bipush 6, 2) := by decide +kernel
theorem dX8_setSlotLimit_4 : decode cX8_setSlotLimit 4 = .ok (.invokestatic 102, 3) := by decide +kernel
theorem dX8_setSlotLimit_7 : decode cX8_setSlotLimit 7 = .ok (.ifCond .ne 7, 3) := by decide +kernel
theorem dX8_setSlotLimit_10 : decode cX8_setSlotLimit 10 = .ok (.sipush (-1002), 3) := by decide +kernel
theorem dX8_setSlotLimit_13 : decode cX8_setSlotLimit 13 = .ok (.ireturn, 1) := by decide +kernel
theorem dX8_setSlotLimit_14 : decode cX8_setSlotLimit 14 = .ok (.aload_n 0, 1) := by decide +kernel
theorem dX8_setSlotLimit_15 : decode cX8_setSlotLimit 15 = .ok (.getfield 51, 3) := by decide +kernel
theorem dX8_setSlotLimit_18 : decode cX8_setSlotLimit 18 = .ok (.istore_n 2, 1) := by decide +kernel
theorem dX8_setSlotLimit_19 : decode cX8_setSlotLimit 19 = .ok (.aload_n 0, 1) := by decide +kernel
theorem dX8_setSlotLimit_20 : decode cX8_setSlotLimit 20 = .ok (.iload_n 1, 1) := by decide +kernel
theorem dX8_setSlotLimit_21 : decode cX8_setSlotLimit 21 = .ok (.putfield 51, 3) := by decide +kernel
theorem dX8_setSlotLimit_24 : decode cX8_setSlotLimit 24 = .ok (.iload_n 2, 1) := by decide +kernel
theorem dX8_setSlotLimit_25 : decode cX8_setSlotLimit 25 = .ok (.ireturn, 1) := by decide +kernel
set_option maxRecDepth 20000 in
theorem ggX8_setTakeoverLimit_X8_within : GoodIn wsX8_setTakeoverLimit wsX8_within := goodIn_r _ [5] (by decide +kernel) (by decide +kernel)
set_option maxRecDepth 20000 in
theorem gX8_setTakeoverLimit_X8_within : GoodIn wsX8_setTakeoverLimit (va_wsS RX8 102 yX8_within wsX8_within) := goodIn_app (goodIn_of _ (by decide +kernel)) ggX8_setTakeoverLimit_X8_within
theorem dX8_setTakeoverLimit_0 : decode cX8_setTakeoverLimit 0 = .ok (.iload_n 1, 1) := by decide +kernel
theorem dX8_setTakeoverLimit_1 : decode cX8_setTakeoverLimit 1 = .ok (.iconst 1, 1) := by decide +kernel
theorem dX8_setTakeoverLimit_2 : decode cX8_setTakeoverLimit 2 = .ok (.bipush 9, 2) := by decide +kernel
theorem dX8_setTakeoverLimit_4 : decode cX8_setTakeoverLimit 4 = .ok (.invokestatic 102, 3) := by decide +kernel
theorem dX8_setTakeoverLimit_7 : decode cX8_setTakeoverLimit 7 = .ok (.ifCond .ne 7, 3) := by decide +kernel
theorem dX8_setTakeoverLimit_10 : decode cX8_setTakeoverLimit 10 = .ok (.sipush (-1002), 3) := by decide +kernel
theorem dX8_setTakeoverLimit_13 : decode cX8_setTakeoverLimit 13 = .ok (.ireturn, 1) := by decide +kernel
theorem dX8_setTakeoverLimit_14 : decode cX8_setTakeoverLimit 14 = .ok (.aload_n 0, 1) := by decide +kernel
theorem dX8_setTakeoverLimit_15 : decode cX8_setTakeoverLimit 15 = .ok (.getfield 54, 3) := by decide +kernel
theorem dX8_setTakeoverLimit_18 : decode cX8_setTakeoverLimit 18 = .ok (.istore_n 2, 1) := by decide +kernel
theorem dX8_setTakeoverLimit_19 : decode cX8_setTakeoverLimit 19 = .ok (.aload_n 0, 1) := by decide +kernel
theorem dX8_setTakeoverLimit_20 : decode cX8_setTakeoverLimit 20 = .ok (.iload_n 1, 1) := by decide +kernel
theorem dX8_setTakeoverLimit_21 : decode cX8_setTakeoverLimit 21 = .ok (.putfield 54, 3) := by decide +kernel
theorem dX8_setTakeoverLimit_24 : decode cX8_setTakeoverLimit 24 = .ok (.iload_n 2, 1) := by decide +kernel
theorem dX8_setTakeoverLimit_25 : decode cX8_setTakeoverLimit 25 = .ok (.ireturn, 1) := by decide +kernel
set_option maxRecDepth 20000 in
theorem ggX8_isNode_X8_within : GoodIn wsX8_isNode wsX8_within := goodIn_r _ [5] (by decide +kernel) (by decide +kernel)
set_option maxRecDepth 20000 in
theorem gX8_isNode_X8_within : GoodIn wsX8_isNode (va_wsS RX8 102 yX8_within wsX8_within) := goodIn_app (goodIn_of _ (by decide +kernel)) ggX8_isNode_X8_within
theorem dX8_isNode_0 : decode cX8_isNode 0 = .ok (.iload_n 1, 1) := by decide +kernel
theorem dX8_isNode_1 : decode cX8_isNode 1 = .ok (.iconst 0, 1) := by decide +kernel
theorem dX8_isNode_2 : decode cX8_isNode 2 = .ok (.aload_n 0, 1) := by decide +kernel
theorem dX8_isNode_3 : decode cX8_isNode 3 = .ok (.getfield 129, 3) := by decide +kernel
theorem dX8_isNode_6 : decode cX8_isNode 6 = .ok (.iconst 1, 1) := by decide +kernel
theorem dX8_isNode_7 : decode cX8_isNode 7 = .ok (.isub, 1) := by decide +kernel
theorem dX8_isNode_8 : decode cX8_isNode 8 = .ok (.invokestatic 102, 3) := by decide +kernel
theorem dX8_isNode_11 : decode cX8_isNode 11 = .ok (.ireturn, 1) := by decide +kernel
set_option maxRecDepth 20000 in
theorem ggX8_setAlive_X8_isNode : GoodIn wsX8_setAlive wsX8_isNode := goodIn_r _ [7, 8, 9, 10, 6, 11, 12, 13, 14, 15, 16, 17, 18, 19, 20, 21, 22, 23, 24, 25, 26, 27, 28, 29, 30, 31, 32, 33, 34, 35, 36, 37, 38, 39, 40, 41, 42, 43, 44, 45, 46, 47, 48, 49, 50, 51, 52, 53] (by decide +kernel) (by decide +kernel)
set_option maxRecDepth 20000 in
theorem gX8_setAlive_X8_isNode : GoodIn wsX8_setAlive (wsV RX8 147 RX8 yX8_isNode wsX8_isNode) := goodIn_app (goodIn_of _ (by decide +kernel)) ggX8_setAlive_X8_isNode
theorem dX8_setAlive_0 : decode cX8_setAlive 0 = .ok (.aload_n 0, 1) := by decide +kernel
theorem dX8_setAlive_1 : decode cX8_setAlive 1 = .ok (.iload_n 1, 1) := by decide +kernel
theorem dX8_setAlive_2 : decode cX8_setAlive 2 = .ok (.invokevirtual 147, 3) := by decide +kernel
theorem dX8_setAlive_5 : decode cX8_setAlive 5 = .ok (.ifCond .ne 7, 3) := by decide +kernel
theorem dX8_setAlive_8 : decode cX8_setAlive 8 = .ok (.sipush (-1001), 3) := by decide +kernel
theorem dX8_setAlive_11 : decode cX8_setAlive 11 = .ok (.ireturn, 1) := by decide +kernel
theorem dX8_setAlive_12 : decode cX8_setAlive 12 = .ok (.aload_n 0, 1) := by decide +kernel
theorem dX8_setAlive_13 : decode cX8_setAlive 13 = .ok (.getfield 25, 3) := by decide +kernel
theorem dX8_setAlive_16 : decode cX8_setAlive 16 = .ok (.iload_n 1, 1) := by decide +kernel
theorem dX8_setAlive_17 : decode cX8_setAlive 17 = .ok (.baload, 1) := by decide +kernel
theorem dX8_setAlive_18 : decode cX8_setAlive 18 = .ok (.istore_n 3, 1) := by decide +kernel
theorem dX8_setAlive_19 : decode cX8_setAlive 19 = .ok (.aload_n 0, 1) := by decide +kernel
theorem dX8_setAlive_20 : decode cX8_setAlive 20 = .ok (.getfield 38, 3) := by decide +kernel
theorem dX8_setAlive_23 : decode cX8_setAlive 23 = .ok (.iload_n 1, 1) := by decide +kernel
theorem dX8_setAlive_24 : decode cX8_setAlive 24 = .ok (.iload_n 3, 1) := by decide +kernel
theorem dX8_setAlive_25 : decode cX8_setAlive 25 = .ok (.iload_n 2, 1) := by decide +kernel
theorem dX8_setAlive_26 : decode cX8_setAlive 26 = .ok (.if_icmp .ne 12, 3) := by decide +kernel
theorem dX8_setAlive_29 : decode cX8_setAlive 29 = .ok (.aload_n 0, 1) := by decide +kernel
theorem dX8_setAlive_30 : decode cX8_setAlive 30 = .ok (.getfield 38, 3) := by decide +kernel
theorem dX8_setAlive_33 : decode cX8_setAlive 33 = .ok (.iload_n 1, 1) := by decide +kernel
theorem dX8_setAlive_34 : decode cX8_setAlive 34 = .ok (.iaload, 1) := by decide +kernel
theorem dX8_setAlive_35 : decode cX8_setAlive 35 = .ok (.goto 4, 3) := by decide +kernel
theorem dX8_setAlive_38 : decode cX8_setAlive 38 = .ok (.iconst 0, 1) := by decide +kernel
theorem dX8_setAlive_39 : decode cX8_setAlive 39 = .ok (.iastore, 1) := by decide +kernel
theorem dX8_setAlive_40 : decode cX8_setAlive 40 = .ok (.aload_n 0, 1) := by decide +kernel
theorem dX8_setAlive_41 : decode cX8_setAlive 41 = .ok (.getfield 25, 3) := by decide +kernel
theorem dX8_setAlive_44 : decode cX8_setAlive 44 = .ok (.iload_n 1, 1) := by decide +kernel
theorem dX8_setAlive_45 : decode cX8_setAlive 45 = .ok (.iload_n 2, 1) := by decide +kernel
theorem dX8_setAlive_46 : decode cX8_setAlive 46 = .ok (.bastore, 1) := by decide +kernel
theorem dX8_setAlive_47 : decode cX8_setAlive 47 = .ok (.iload_n 3, 1) := by decide +kernel
theorem dX8_setAlive_48 : decode cX8_setAlive 48 = .ok (.ifCond .eq 7, 3) := by decide +kernel
theorem dX8_setAlive_51 : decode cX8_setAlive 51 = .ok (.iconst 1, 1) := by decide +kernel
theorem dX8_setAlive_52 : decode cX8_setAlive 52 = .ok (.goto 4, 3) := by decide +kernel
theorem dX8_setAlive_55 : decode cX8_setAlive 55 = .ok (.iconst 0, 1) := by decide +kernel
theorem dX8_setAlive_56 : decode cX8_setAlive 56 = .ok (.ireturn, 1) := by decide +kernel
theorem dX8_forgetFlood_0 : decode cX8_forgetFlood 0 = .ok (.iconst 0, 1) := by decide +kernel
theorem dX8_forgetFlood_1 : decode cX8_forgetFlood 1 = .ok (.istore_n 1, 1) := by decide +kernel
theorem dX8_forgetFlood_2 : decode cX8_forgetFlood 2 = .ok (.iload_n 1, 1) := by decide +kernel
theorem dX8_forgetFlood_3 : decode cX8_forgetFlood 3 = .ok (.bipush 8, 2) := by decide +kernel
theorem dX8_forgetFlood_5 : decode cX8_forgetFlood 5 = .ok (.if_icmp .ge 24, 3) := by decide +kernel
theorem dX8_forgetFlood_8 : decode cX8_forgetFlood 8 = .ok (.aload_n 0, 1) := by decide +kernel
theorem dX8_forgetFlood_9 : decode cX8_forgetFlood 9 = .ok (.getfield 29, 3) := by decide +kernel
theorem dX8_forgetFlood_12 : decode cX8_forgetFlood 12 = .ok (.iload_n 1, 1) := by decide +kernel
theorem dX8_forgetFlood_13 : decode cX8_forgetFlood 13 = .ok (.iconst (-1), 1) := by decide +kernel
theorem dX8_forgetFlood_14 : decode cX8_forgetFlood 14 = .ok (.iastore, 1) := by decide +kernel
theorem dX8_forgetFlood_15 : decode cX8_forgetFlood 15 = .ok (.aload_n 0, 1) := by decide +kernel
theorem dX8_forgetFlood_16 : decode cX8_forgetFlood 16 = .ok (.getfield 32, 3) := by decide +kernel
theorem dX8_forgetFlood_19 : decode cX8_forgetFlood 19 = .ok (.iload_n 1, 1) := by decide +kernel
theorem dX8_forgetFlood_20 : decode cX8_forgetFlood 20 = .ok (.bipush (-2), 2) := by decide +kernel
theorem dX8_forgetFlood_22 : decode cX8_forgetFlood 22 = .ok (.iastore, 1) := by decide +kernel
theorem dX8_forgetFlood_23 : decode cX8_forgetFlood 23 = .ok (.iinc 1 1, 3) := by decide +kernel
theorem dX8_forgetFlood_26 : decode cX8_forgetFlood 26 = .ok (.goto (-24), 3) := by decide +kernel
theorem dX8_forgetFlood_29 : decode cX8_forgetFlood 29 = .ok (.aload_n 0, 1) := by decide +kernel
theorem dX8_forgetFlood_30 : decode cX8_forgetFlood 30 = .ok (.iconst 0, 1) := by decide +kernel
theorem dX8_forgetFlood_31 : decode cX8_forgetFlood 31 = .ok (.putfield 151, 3) := by decide +kernel
theorem dX8_forgetFlood_34 : decode cX8_forgetFlood 34 = .ok (.return_, 1) := by decide +kernel
theorem dX8_transmits_0 : decode cX8_transmits 0 = .ok (.iload_n 2, 1) := by decide +kernel
theorem dX8_transmits_1 : decode cX8_transmits 1 = .ok (.aload_n 0, 1) := by decide +kernel
theorem dX8_transmits_2 : decode cX8_transmits 2 = .ok (.getfield 32, 3) := by decide +kernel
theorem dX8_transmits_5 : decode cX8_transmits 5 = .ok (.iload_n 1, 1) := by decide +kernel
theorem dX8_transmits_6 : decode cX8_transmits 6 = .ok (.iaload, 1) := by decide +kernel
theorem dX8_transmits_7 : decode cX8_transmits 7 = .ok (.isub, 1) := by decide +kernel
theorem dX8_transmits_8 : decode cX8_transmits 8 = .ok (.iconst 1, 1) := by decide +kernel
theorem dX8_transmits_9 : decode cX8_transmits 9 = .ok (.isub, 1) := by decide +kernel
theorem dX8_transmits_10 : decode cX8_transmits 10 = .ok (.istore_n 3, 1) := by decide +kernel
theorem dX8_transmits_11 : decode cX8_transmits 11 = .ok (.aload_n 0, 1) := by decide +kernel
theorem dX8_transmits_12 : decode cX8_transmits 12 = .ok (.getfield 32, 3) := by decide +kernel
theorem dX8_transmits_15 : decode cX8_transmits 15 = .ok (.iload_n 1, 1) := by decide +kernel
theorem dX8_transmits_16 : decode cX8_transmits 16 = .ok (.iaload, 1) := by decide +kernel
theorem dX8_transmits_17 : decode cX8_transmits 17 = .ok (.bipush (-2), 2) := by decide +kernel
theorem dX8_transmits_19 : decode cX8_transmits 19 = .ok (.if_icmp .eq 27, 3) := by decide +kernel
theorem dX8_transmits_22 : decode cX8_transmits 22 = .ok (.iload_n 3, 1) := by decide +kernel
theorem dX8_transmits_23 : decode cX8_transmits 23 = .ok (.ifCond .lt 23, 3) := by decide +kernel
theorem dX8_transmits_26 : decode cX8_transmits 26 = .ok (.iload_n 3, 1) := by decide +kernel
theorem dX8_transmits_27 : decode cX8_transmits 27 = .ok (.iconst 2, 1) := by decide +kernel
theorem dX8_transmits_28 : decode cX8_transmits 28 = .ok (.irem, 1) := by decide +kernel
theorem dX8_transmits_29 : decode cX8_transmits 29 = .ok (.ifCond .ne 17, 3) := by decide +kernel
theorem dX8_transmits_32 : decode cX8_transmits 32 = .ok (.iload_n 3, 1) := by decide +kernel
theorem dX8_transmits_33 : decode cX8_transmits 33 = .ok (.iconst 2, 1) := by decide +kernel
theorem dX8_transmits_34 : decode cX8_transmits 34 = .ok (.idiv, 1) := by decide +kernel
theorem dX8_transmits_35 : decode cX8_transmits 35 = .ok (.aload_n 0, 1) := by decide +kernel
theorem dX8_transmits_36 : decode cX8_transmits 36 = .ok (.getfield 45, 3) := by decide +kernel
theorem dX8_transmits_39 : decode cX8_transmits 39 = .ok (.if_icmp .ge 7, 3) := by decide +kernel
theorem dX8_transmits_42 : decode cX8_transmits 42 = .ok (.iconst 1, 1) := by decide +kernel
theorem dX8_transmits_43 : decode cX8_transmits 43 = .ok (.goto 4, 3) := by decide +kernel
theorem dX8_transmits_46 : decode cX8_transmits 46 = .ok (.iconst 0, 1) := by decide +kernel
theorem dX8_transmits_47 : decode cX8_transmits 47 = .ok (.ireturn, 1) := by decide +kernel
theorem dX8_lastSlot_0 : decode cX8_lastSlot 0 = .ok (.iconst (-1), 1) := by decide +kernel
theorem dX8_lastSlot_1 : decode cX8_lastSlot 1 = .ok (.istore_n 1, 1) := by decide +kernel
theorem dX8_lastSlot_2 : decode cX8_lastSlot 2 = .ok (.iconst 0, 1) := by decide +kernel
theorem dX8_lastSlot_3 : decode cX8_lastSlot 3 = .ok (.istore_n 2, 1) := by decide +kernel
theorem dX8_lastSlot_4 : decode cX8_lastSlot 4 = .ok (.iload_n 2, 1) := by decide +kernel
theorem dX8_lastSlot_5 : decode cX8_lastSlot 5 = .ok (.aload_n 0, 1) := by decide +kernel
theorem dX8_lastSlot_6 : decode cX8_lastSlot 6 = .ok (.getfield 129, 3) := by decide +kernel
theorem dX8_lastSlot_9 : decode cX8_lastSlot 9 = .ok (.if_icmp .ge 51, 3) := by decide +kernel
theorem dX8_lastSlot_12 : decode cX8_lastSlot 12 = .ok (.aload_n 0, 1) := by decide +kernel
theorem dX8_lastSlot_13 : decode cX8_lastSlot 13 = .ok (.getfield 32, 3) := by decide +kernel
theorem dX8_lastSlot_16 : decode cX8_lastSlot 16 = .ok (.iload_n 2, 1) := by decide +kernel
theorem dX8_lastSlot_17 : decode cX8_lastSlot 17 = .ok (.iaload, 1) := by decide +kernel
theorem dX8_lastSlot_18 : decode cX8_lastSlot 18 = .ok (.bipush (-2), 2) := by decide +kernel
theorem dX8_lastSlot_20 : decode cX8_lastSlot 20 = .ok (.if_icmp .ne 7, 3) := by decide +kernel
theorem dX8_lastSlot_23 : decode cX8_lastSlot 23 = .ok (.iconst (-1), 1) := by decide +kernel
theorem dX8_lastSlot_24 : decode cX8_lastSlot 24 = .ok (.goto 18, 3) := by decide +kernel
theorem dX8_lastSlot_27 : decode cX8_lastSlot 27 = .ok (.aload_n 0, 1) := by decide +kernel
theorem dX8_lastSlot_28 : decode cX8_lastSlot 28 = .ok (.getfield 32, 3) := by decide +kernel
theorem dX8_lastSlot_31 : decode cX8_lastSlot 31 = .ok (.iload_n 2, 1) := by decide +kernel
theorem dX8_lastSlot_32 : decode cX8_lastSlot 32 = .ok (.iaload, 1) := by decide +kernel
theorem dX8_lastSlot_33 : decode cX8_lastSlot 33 = .ok (.iconst 2, 1) := by decide +kernel
theorem dX8_lastSlot_34 : decode cX8_lastSlot 34 = .ok (.aload_n 0, 1) := by decide +kernel
theorem dX8_lastSlot_35 : decode cX8_lastSlot 35 = .ok (.getfield 45, 3) := by decide +kernel
theorem dX8_lastSlot_38 : decode cX8_lastSlot 38 = .ok (.imul, 1) := by decide +kernel
theorem dX8_lastSlot_39 : decode cX8_lastSlot 39 = .ok (.iadd, 1) := by decide +kernel
theorem dX8_lastSlot_40 : decode cX8_lastSlot 40 = .ok (.iconst 1, 1) := by decide +kernel
theorem dX8_lastSlot_41 : decode cX8_lastSlot 41 = .ok (.isub, 1) := by decide +kernel
theorem dX8_lastSlot_42 : decode cX8_lastSlot 42 = .ok (.istore_n 3, 1) := by decide +kernel
theorem dX8_lastSlot_43 : decode cX8_lastSlot 43 = .ok (.iload_n 3, 1) := by decide +kernel
theorem dX8_lastSlot_44 : decode cX8_lastSlot 44 = .ok (.iload_n 1, 1) := by decide +kernel
theorem dX8_lastSlot_45 : decode cX8_lastSlot 45 = .ok (.if_icmp .le 7, 3) := by decide +kernel
theorem dX8_lastSlot_48 : decode cX8_lastSlot 48 = .ok (.iload_n 3, 1) := by decide +kernel
theorem dX8_lastSlot_49 : decode cX8_lastSlot 49 = .ok (.goto 4, 3) := by decide +kernel
theorem dX8_lastSlot_52 : decode cX8_lastSlot 52 = .ok (.iload_n 1, 1) := by decide +kernel
theorem dX8_lastSlot_53 : decode cX8_lastSlot 53 = .ok (.istore_n 1, 1) := by decide +kernel
theorem dX8_lastSlot_54 : decode cX8_lastSlot 54 = .ok (.iinc 2 1, 3) := by decide +kernel
theorem dX8_lastSlot_57 : decode cX8_lastSlot 57 = .ok (.goto (-53), 3) := by decide +kernel
theorem dX8_lastSlot_60 : decode cX8_lastSlot 60 = .ok (.iload_n 1, 1) := by decide +kernel
theorem dX8_lastSlot_61 : decode cX8_lastSlot 61 = .ok (.ireturn, 1) := by decide +kernel
set_option maxRecDepth 20000 in
theorem ggX8_heard_X8_transmits : GoodIn wsX8_heard wsX8_transmits := goodIn_r _ [13, 14, 15, 16, 17, 18, 19, 20, 21, 22, 23, 24, 25, 26, 27, 28, 29, 30, 31, 32, 33, 34, 35, 36, 37, 38, 39, 40, 41, 42, 43, 44, 45, 46, 47, 48, 49, 50, 51, 52, 53, 54, 55, 56, 57] (by decide +kernel) (by decide +kernel)
set_option maxRecDepth 20000 in
theorem gX8_heard_X8_transmits : GoodIn wsX8_heard (wsV RX8 154 RX8 yX8_transmits wsX8_transmits) := goodIn_app (goodIn_of _ (by decide +kernel)) ggX8_heard_X8_transmits
theorem dX8_heard_0 : decode cX8_heard 0 = .ok (.iconst 0, 1) := by decide +kernel
theorem dX8_heard_1 : decode cX8_heard 1 = .ok (.istore_n 3, 1) := by decide +kernel
theorem dX8_heard_2 : decode cX8_heard 2 = .ok (.iload_n 3, 1) := by decide +kernel
theorem dX8_heard_3 : decode cX8_heard 3 = .ok (.bipush 8, 2) := by decide +kernel
theorem dX8_heard_5 : decode cX8_heard 5 = .ok (.if_icmp .ge 16, 3) := by decide +kernel
theorem dX8_heard_8 : decode cX8_heard 8 = .ok (.aload_n 0, 1) := by decide +kernel
theorem dX8_heard_9 : decode cX8_heard 9 = .ok (.getfield 93, 3) := by decide +kernel
theorem dX8_heard_12 : decode cX8_heard 12 = .ok (.iload_n 3, 1) := by decide +kernel
theorem dX8_heard_13 : decode cX8_heard 13 = .ok (.iconst 0, 1) := by decide +kernel
theorem dX8_heard_14 : decode cX8_heard 14 = .ok (.iastore, 1) := by decide +kernel
theorem dX8_heard_15 : decode cX8_heard 15 = .ok (.iinc 3 1, 3) := by decide +kernel
theorem dX8_heard_18 : decode cX8_heard 18 = .ok (.goto (-16), 3) := by decide +kernel
theorem dX8_heard_21 : decode cX8_heard 21 = .ok (.iconst 0, 1) := by decide +kernel
theorem dX8_heard_22 : decode cX8_heard 22 = .ok (.istore_n 3, 1) := by decide +kernel
theorem dX8_heard_23 : decode cX8_heard 23 = .ok (.iload_n 3, 1) := by decide +kernel
theorem dX8_heard_24 : decode cX8_heard 24 = .ok (.aload_n 0, 1) := by decide +kernel
theorem dX8_heard_25 : decode cX8_heard 25 = .ok (.getfield 132, 3) := by decide +kernel
theorem dX8_heard_28 : decode cX8_heard 28 = .ok (.if_icmp .ge 148, 3) := by decide +kernel
theorem dX8_heard_31 : decode cX8_heard 31 = .ok (.aload_n 0, 1) := by decide +kernel
theorem dX8_heard_32 : decode cX8_heard 32 = .ok (.getfield 13, 3) := by decide +kernel
theorem dX8_heard_35 : decode cX8_heard 35 = .ok (.iload_n 3, 1) := by decide +kernel
theorem dX8_heard_36 : decode cX8_heard 36 = .ok (.iaload, 1) := by decide +kernel
theorem dX8_heard_37 : decode cX8_heard 37 = .ok (.iload_n 1, 1) := by decide +kernel
theorem dX8_heard_38 : decode cX8_heard 38 = .ok (.if_icmp .ne 12, 3) := by decide +kernel
theorem dX8_heard_41 : decode cX8_heard 41 = .ok (.aload_n 0, 1) := by decide +kernel
theorem dX8_heard_42 : decode cX8_heard 42 = .ok (.getfield 16, 3) := by decide +kernel
theorem dX8_heard_45 : decode cX8_heard 45 = .ok (.iload_n 3, 1) := by decide +kernel
theorem dX8_heard_46 : decode cX8_heard 46 = .ok (.iaload, 1) := by decide +kernel
theorem dX8_heard_47 : decode cX8_heard 47 = .ok (.goto 23, 3) := by decide +kernel
theorem dX8_heard_50 : decode cX8_heard 50 = .ok (.aload_n 0, 1) := by decide +kernel
theorem dX8_heard_51 : decode cX8_heard 51 = .ok (.getfield 16, 3) := by decide +kernel
theorem dX8_heard_54 : decode cX8_heard 54 = .ok (.iload_n 3, 1) := by decide +kernel
theorem dX8_heard_55 : decode cX8_heard 55 = .ok (.iaload, 1) := by decide +kernel
theorem dX8_heard_56 : decode cX8_heard 56 = .ok (.iload_n 1, 1) := by decide +kernel
theorem dX8_heard_57 : decode cX8_heard 57 = .ok (.if_icmp .ne 12, 3) := by decide +kernel
theorem dX8_heard_60 : decode cX8_heard 60 = .ok (.aload_n 0, 1) := by decide +kernel
theorem dX8_heard_61 : decode cX8_heard 61 = .ok (.getfield 13, 3) := by decide +kernel
theorem dX8_heard_64 : decode cX8_heard 64 = .ok (.iload_n 3, 1) := by decide +kernel
theorem dX8_heard_65 : decode cX8_heard 65 = .ok (.iaload, 1) := by decide +kernel
theorem dX8_heard_66 : decode cX8_heard 66 = .ok (.goto 4, 3) := by decide +kernel
theorem dX8_heard_69 : decode cX8_heard 69 = .ok (.iconst (-1), 1) := by decide +kernel
theorem dX8_heard_70 : decode cX8_heard 70 = .ok (.istore 4, 2) := by decide +kernel
theorem dX8_heard_72 : decode cX8_heard 72 = .ok (.aload_n 0, 1) := by decide +kernel
theorem dX8_heard_73 : decode cX8_heard 73 = .ok (.getfield 22, 3) := by decide +kernel
theorem dX8_heard_76 : decode cX8_heard 76 = .ok (.iload_n 3, 1) := by decide +kernel
theorem dX8_heard_77 : decode cX8_heard 77 = .ok (.iaload, 1) := by decide +kernel
theorem dX8_heard_78 : decode cX8_heard 78 = .ok (.ifCond .le 20, 3) := by decide +kernel
theorem dX8_heard_81 : decode cX8_heard 81 = .ok (.iload_n 2, 1) := by decide +kernel
theorem dX8_heard_82 : decode cX8_heard 82 = .ok (.iconst 1, 1) := by decide +kernel
theorem dX8_heard_83 : decode cX8_heard 83 = .ok (.iadd, 1) := by decide +kernel
theorem dX8_heard_84 : decode cX8_heard 84 = .ok (.aload_n 0, 1) := by decide +kernel
theorem dX8_heard_85 : decode cX8_heard 85 = .ok (.getfield 22, 3) := by decide +kernel
theorem dX8_heard_88 : decode cX8_heard 88 = .ok (.iload_n 3, 1) := by decide +kernel
theorem dX8_heard_89 : decode cX8_heard 89 = .ok (.iaload, 1) := by decide +kernel
theorem dX8_heard_90 : decode cX8_heard 90 = .ok (.irem, 1) := by decide +kernel
theorem dX8_heard_91 : decode cX8_heard 91 = .ok (.ifCond .ne 7, 3) := by decide +kernel
theorem dX8_heard_94 : decode cX8_heard 94 = .ok (.iconst 1, 1) := by decide +kernel
theorem dX8_heard_95 : decode cX8_heard 95 = .ok (.goto 4, 3) := by decide +kernel
theorem dX8_heard_98 : decode cX8_heard 98 = .ok (.iconst 0, 1) := by decide +kernel
theorem dX8_heard_99 : decode cX8_heard 99 = .ok (.istore 5, 2) := by decide +kernel
theorem dX8_heard_101 : decode cX8_heard 101 = .ok (.iload 4, 2) := by decide +kernel
theorem dX8_heard_103 : decode cX8_heard 103 = .ok (.iconst (-1), 1) := by decide +kernel
theorem dX8_heard_104 : decode cX8_heard 104 = .ok (.if_icmp .eq 66, 3) := by decide +kernel
theorem dX8_heard_107 : decode cX8_heard 107 = .ok (.iload 5, 2) := by decide +kernel
theorem dX8_heard_109 : decode cX8_heard 109 = .ok (.ifCond .ne 61, 3) := by decide +kernel
theorem dX8_heard_112 : decode cX8_heard 112 = .ok (.aload_n 0, 1) := by decide +kernel
theorem dX8_heard_113 : decode cX8_heard 113 = .ok (.iload 4, 2) := by decide +kernel
theorem dX8_heard_115 : decode cX8_heard 115 = .ok (.iload_n 2, 1) := by decide +kernel
theorem dX8_heard_116 : decode cX8_heard 116 = .ok (.invokevirtual 154, 3) := by decide +kernel
theorem dX8_heard_119 : decode cX8_heard 119 = .ok (.ifCond .eq 51, 3) := by decide +kernel
theorem dX8_heard_122 : decode cX8_heard 122 = .ok (.aload_n 0, 1) := by decide +kernel
theorem dX8_heard_123 : decode cX8_heard 123 = .ok (.getfield 29, 3) := by decide +kernel
theorem dX8_heard_126 : decode cX8_heard 126 = .ok (.iload 4, 2) := by decide +kernel
theorem dX8_heard_128 : decode cX8_heard 128 = .ok (.iaload, 1) := by decide +kernel
theorem dX8_heard_129 : decode cX8_heard 129 = .ok (.istore 6, 2) := by decide +kernel
theorem dX8_heard_131 : decode cX8_heard 131 = .ok (.aload_n 0, 1) := by decide +kernel
theorem dX8_heard_132 : decode cX8_heard 132 = .ok (.getfield 93, 3) := by decide +kernel
theorem dX8_heard_135 : decode cX8_heard 135 = .ok (.iload 6, 2) := by decide +kernel
theorem dX8_heard_137 : decode cX8_heard 137 = .ok (.aload_n 0, 1) := by decide +kernel
theorem dX8_heard_138 : decode cX8_heard 138 = .ok (.getfield 19, 3) := by decide +kernel
theorem dX8_heard_141 : decode cX8_heard 141 = .ok (.iload_n 3, 1) := by decide +kernel
theorem dX8_heard_142 : decode cX8_heard 142 = .ok (.iaload, 1) := by decide +kernel
theorem dX8_heard_143 : decode cX8_heard 143 = .ok (.aload_n 0, 1) := by decide +kernel
theorem dX8_heard_144 : decode cX8_heard 144 = .ok (.getfield 93, 3) := by decide +kernel
theorem dX8_heard_147 : decode cX8_heard 147 = .ok (.iload 6, 2) := by decide +kernel
theorem dX8_heard_149 : decode cX8_heard 149 = .ok (.iaload, 1) := by decide +kernel
theorem dX8_heard_150 : decode cX8_heard 150 = .ok (.if_icmp .le 12, 3) := by decide +kernel
theorem dX8_heard_153 : decode cX8_heard 153 = .ok (.aload_n 0, 1) := by decide +kernel
theorem dX8_heard_154 : decode cX8_heard 154 = .ok (.getfield 19, 3) := by decide +kernel
theorem dX8_heard_157 : decode cX8_heard 157 = .ok (.iload_n 3, 1) := by decide +kernel
theorem dX8_heard_158 : decode cX8_heard 158 = .ok (.iaload, 1) := by decide +kernel
theorem dX8_heard_159 : decode cX8_heard 159 = .ok (.goto 10, 3) := by decide +kernel
theorem dX8_heard_162 : decode cX8_heard 162 = .ok (.aload_n 0, 1) := by decide +kernel
theorem dX8_heard_163 : decode cX8_heard 163 = .ok (.getfield 93, 3) := by decide +kernel
theorem dX8_heard_166 : decode cX8_heard 166 = .ok (.iload 6, 2) := by decide +kernel
theorem dX8_heard_168 : decode cX8_heard 168 = .ok (.iaload, 1) := by decide +kernel
theorem dX8_heard_169 : decode cX8_heard 169 = .ok (.iastore, 1) := by decide +kernel
theorem dX8_heard_170 : decode cX8_heard 170 = .ok (.iinc 3 1, 3) := by decide +kernel
theorem dX8_heard_173 : decode cX8_heard 173 = .ok (.goto (-150), 3) := by decide +kernel
theorem dX8_heard_176 : decode cX8_heard 176 = .ok (.iconst (-1), 1) := by decide +kernel
theorem dX8_heard_177 : decode cX8_heard 177 = .ok (.istore_n 3, 1) := by decide +kernel
theorem dX8_heard_178 : decode cX8_heard 178 = .ok (.iconst 0, 1) := by decide +kernel
theorem dX8_heard_179 : decode cX8_heard 179 = .ok (.istore 4, 2) := by decide +kernel
theorem dX8_heard_181 : decode cX8_heard 181 = .ok (.iconst 0, 1) := by decide +kernel
theorem dX8_heard_182 : decode cX8_heard 182 = .ok (.istore 5, 2) := by decide +kernel
theorem dX8_heard_184 : decode cX8_heard 184 = .ok (.iconst 0, 1) := by decide +kernel
theorem dX8_heard_185 : decode cX8_heard 185 = .ok (.istore 6, 2) := by decide +kernel
theorem dX8_heard_187 : decode cX8_heard 187 = .ok (.iload 6, 2) := by decide +kernel
theorem dX8_heard_189 : decode cX8_heard 189 = .ok (.bipush 8, 2) := by decide +kernel
theorem dX8_heard_191 : decode cX8_heard 191 = .ok (.if_icmp .ge 66, 3) := by decide +kernel
theorem dX8_heard_194 : decode cX8_heard 194 = .ok (.aload_n 0, 1) := by decide +kernel
theorem dX8_heard_195 : decode cX8_heard 195 = .ok (.getfield 93, 3) := by decide +kernel
theorem dX8_heard_198 : decode cX8_heard 198 = .ok (.iload 6, 2) := by decide +kernel
theorem dX8_heard_200 : decode cX8_heard 200 = .ok (.iaload, 1) := by decide +kernel
theorem dX8_heard_201 : decode cX8_heard 201 = .ok (.iload 4, 2) := by decide +kernel
theorem dX8_heard_203 : decode cX8_heard 203 = .ok (.if_icmp .le 22, 3) := by decide +kernel
theorem dX8_heard_206 : decode cX8_heard 206 = .ok (.iload 4, 2) := by decide +kernel
theorem dX8_heard_208 : decode cX8_heard 208 = .ok (.istore 5, 2) := by decide +kernel
theorem dX8_heard_210 : decode cX8_heard 210 = .ok (.aload_n 0, 1) := by decide +kernel
theorem dX8_heard_211 : decode cX8_heard 211 = .ok (.getfield 93, 3) := by decide +kernel
theorem dX8_heard_214 : decode cX8_heard 214 = .ok (.iload 6, 2) := by decide +kernel
theorem dX8_heard_216 : decode cX8_heard 216 = .ok (.iaload, 1) := by decide +kernel
theorem dX8_heard_217 : decode cX8_heard 217 = .ok (.istore 4, 2) := by decide +kernel
theorem dX8_heard_219 : decode cX8_heard 219 = .ok (.iload 6, 2) := by decide +kernel
theorem dX8_heard_221 : decode cX8_heard 221 = .ok (.istore_n 3, 1) := by decide +kernel
theorem dX8_heard_222 : decode cX8_heard 222 = .ok (.goto 29, 3) := by decide +kernel
theorem dX8_heard_225 : decode cX8_heard 225 = .ok (.aload_n 0, 1) := by decide +kernel
theorem dX8_heard_226 : decode cX8_heard 226 = .ok (.getfield 93, 3) := by decide +kernel
theorem dX8_heard_229 : decode cX8_heard 229 = .ok (.iload 6, 2) := by decide +kernel
theorem dX8_heard_231 : decode cX8_heard 231 = .ok (.iaload, 1) := by decide +kernel
theorem dX8_heard_232 : decode cX8_heard 232 = .ok (.iload 5, 2) := by decide +kernel
theorem dX8_heard_234 : decode cX8_heard 234 = .ok (.if_icmp .le 13, 3) := by decide +kernel
theorem dX8_heard_237 : decode cX8_heard 237 = .ok (.aload_n 0, 1) := by decide +kernel
theorem dX8_heard_238 : decode cX8_heard 238 = .ok (.getfield 93, 3) := by decide +kernel
theorem dX8_heard_241 : decode cX8_heard 241 = .ok (.iload 6, 2) := by decide +kernel
theorem dX8_heard_243 : decode cX8_heard 243 = .ok (.iaload, 1) := by decide +kernel
theorem dX8_heard_244 : decode cX8_heard 244 = .ok (.goto 5, 3) := by decide +kernel
theorem dX8_heard_247 : decode cX8_heard 247 = .ok (.iload 5, 2) := by decide +kernel
theorem dX8_heard_249 : decode cX8_heard 249 = .ok (.istore 5, 2) := by decide +kernel
theorem dX8_heard_251 : decode cX8_heard 251 = .ok (.iinc 6 1, 3) := by decide +kernel
theorem dX8_heard_254 : decode cX8_heard 254 = .ok (.goto (-67), 3) := by decide +kernel
theorem dX8_heard_257 : decode cX8_heard 257 = .ok (.iload_n 3, 1) := by decide +kernel
theorem dX8_heard_258 : decode cX8_heard 258 = .ok (.iconst (-1), 1) := by decide +kernel
theorem dX8_heard_259 : decode cX8_heard 259 = .ok (.if_icmp .eq 24, 3) := by decide +kernel
theorem dX8_heard_262 : decode cX8_heard 262 = .ok (.iload 5, 2) := by decide +kernel
theorem dX8_heard_264 : decode cX8_heard 264 = .ok (.ifCond .eq 15, 3) := by decide +kernel
theorem dX8_heard_267 : decode cX8_heard 267 = .ok (.iload 4, 2) := by decide +kernel
theorem dX8_heard_269 : decode cX8_heard 269 = .ok (.iload 5, 2) := by decide +kernel
theorem dX8_heard_271 : decode cX8_heard 271 = .ok (.isub, 1) := by decide +kernel
theorem dX8_heard_272 : decode cX8_heard 272 = .ok (.aload_n 0, 1) := by decide +kernel
theorem dX8_heard_273 : decode cX8_heard 273 = .ok (.getfield 48, 3) := by decide +kernel
theorem dX8_heard_276 : decode cX8_heard 276 = .ok (.if_icmp .lt 7, 3) := by decide +kernel
theorem dX8_heard_279 : decode cX8_heard 279 = .ok (.iload_n 3, 1) := by decide +kernel
theorem dX8_heard_280 : decode cX8_heard 280 = .ok (.goto 4, 3) := by decide +kernel
theorem dX8_heard_283 : decode cX8_heard 283 = .ok (.iconst (-1), 1) := by decide +kernel
theorem dX8_heard_284 : decode cX8_heard 284 = .ok (.ireturn, 1) := by decide +kernel
set_option maxRecDepth 20000 in
theorem ggX8_floodNow_X8_forgetFlood : GoodIn wsX8_floodNow wsX8_forgetFlood := goodIn_r _ [12, 2, 3, 7, 37, 38, 39, 40, 41, 42, 43, 44, 45, 46, 47, 48, 49, 50, 51, 52, 53, 54, 55, 56, 57, 58, 59, 60, 61, 62, 63, 64, 65, 66, 67, 68, 69, 70, 71, 72, 73, 74, 75, 76, 77, 78] (by decide +kernel) (by decide +kernel)
set_option maxRecDepth 20000 in
theorem gX8_floodNow_X8_forgetFlood : GoodIn wsX8_floodNow (wsV RX8 135 RX8 yX8_forgetFlood wsX8_forgetFlood) := goodIn_app (goodIn_of _ (by decide +kernel)) ggX8_floodNow_X8_forgetFlood
set_option maxRecDepth 20000 in
theorem ggX8_floodNow_X8_lastSlot : GoodIn wsX8_floodNow wsX8_lastSlot := goodIn_r _ [16, 1, 3, 17, 37, 38, 39, 40, 41, 42, 43, 44, 45, 46, 47, 48, 49, 50, 51, 52, 53, 54, 55, 56, 57, 58, 59, 60, 61, 62, 63, 64, 65, 66, 67, 68, 69, 70, 71, 72, 73, 74, 75, 76, 77, 78] (by decide +kernel) (by decide +kernel)
set_option maxRecDepth 20000 in
theorem gX8_floodNow_X8_lastSlot : GoodIn wsX8_floodNow (wsV RX8 157 RX8 yX8_lastSlot wsX8_lastSlot) := goodIn_app (goodIn_of _ (by decide +kernel)) ggX8_floodNow_X8_lastSlot
set_option maxRecDepth 20000 in
theorem ggX8_floodNow_X8_heard : GoodIn wsX8_floodNow wsX8_heard := goodIn_r _ [21, 22, 23, 24, 25, 26, 2, 27, 28, 29, 30, 31, 11, 32, 3, 17, 37, 38, 39, 40, 41, 42, 43, 44, 45, 46, 47, 48, 49, 50, 51, 52, 53, 54, 55, 56, 57, 58, 59, 60, 61, 62, 63, 64, 65, 66, 67, 68, 69, 70, 71, 72, 73, 74, 75, 76, 77, 78] (by decide +kernel) (by decide +kernel)
set_option maxRecDepth 20000 in
theorem gX8_floodNow_X8_heard : GoodIn wsX8_floodNow (wsV RX8 161 RX8 yX8_heard wsX8_heard) := goodIn_app (goodIn_of _ (by decide +kernel)) ggX8_floodNow_X8_heard
set_option maxRecDepth 20000 in
theorem ggX8_floodNow_X8_transmits : GoodIn wsX8_floodNow wsX8_transmits := goodIn_r _ [32, 3, 17, 37, 38, 39, 40, 41, 42, 43, 44, 45, 46, 47, 48, 49, 50, 51, 52, 53, 54, 55, 56, 57, 58, 59, 60, 61, 62, 63, 64, 65, 66, 67, 68, 69, 70, 71, 72, 73, 74, 75, 76, 77, 78] (by decide +kernel) (by decide +kernel)
set_option maxRecDepth 20000 in
theorem gX8_floodNow_X8_transmits : GoodIn wsX8_floodNow (wsV RX8 154 RX8 yX8_transmits wsX8_transmits) := goodIn_app (goodIn_of _ (by decide +kernel)) ggX8_floodNow_X8_transmits
set_option maxRecDepth 20000 in
theorem ggX8_floodNow_X8_holders : GoodIn wsX8_floodNow wsX8_holders := goodIn_r _ [36, 1, 2, 37, 38, 39, 40, 41, 42, 43, 44, 45, 46, 47, 48, 49, 50, 51, 52, 53, 54, 55, 56, 57, 58, 59, 60, 61, 62, 63, 64, 65, 66, 67, 68, 69, 70, 71, 72, 73, 74, 75, 76, 77, 78] (by decide +kernel) (by decide +kernel)
set_option maxRecDepth 20000 in
theorem gX8_floodNow_X8_holders : GoodIn wsX8_floodNow (wsV RX8 165 RX8 yX8_holders wsX8_holders) := goodIn_app (goodIn_of _ (by decide +kernel)) ggX8_floodNow_X8_holders
theorem dX8_floodNow_0 : decode cX8_floodNow 0 = .ok (.aload_n 0, 1) := by decide +kernel
theorem dX8_floodNow_1 : decode cX8_floodNow 1 = .ok (.invokevirtual 135, 3) := by decide +kernel
theorem dX8_floodNow_4 : decode cX8_floodNow 4 = .ok (.iconst 0, 1) := by decide +kernel
theorem dX8_floodNow_5 : decode cX8_floodNow 5 = .ok (.istore_n 2, 1) := by decide +kernel
theorem dX8_floodNow_6 : decode cX8_floodNow 6 = .ok (.iload_n 2, 1) := by decide +kernel
theorem dX8_floodNow_7 : decode cX8_floodNow 7 = .ok (.aload_n 0, 1) := by decide +kernel
theorem dX8_floodNow_8 : decode cX8_floodNow 8 = .ok (.getfield 129, 3) := by decide +kernel
theorem dX8_floodNow_11 : decode cX8_floodNow 11 = .ok (.if_icmp .ge 32, 3) := by decide +kernel
theorem dX8_floodNow_14 : decode cX8_floodNow 14 = .ok (.iload_n 1, 1) := by decide +kernel
theorem dX8_floodNow_15 : decode cX8_floodNow 15 = .ok (.iload_n 2, 1) := by decide +kernel
theorem dX8_floodNow_16 : decode cX8_floodNow 16 = .ok (.ishr, 1) := by decide +kernel
theorem dX8_floodNow_17 : decode cX8_floodNow 17 = .ok (.iconst 1, 1) := by decide +kernel
theorem dX8_floodNow_18 : decode cX8_floodNow 18 = .ok (.iand, 1) := by decide +kernel
theorem dX8_floodNow_19 : decode cX8_floodNow 19 = .ok (.iconst 1, 1) := by decide +kernel
theorem dX8_floodNow_20 : decode cX8_floodNow 20 = .ok (.if_icmp .ne 17, 3) := by decide +kernel
theorem dX8_floodNow_23 : decode cX8_floodNow 23 = .ok (.aload_n 0, 1) := by decide +kernel
theorem dX8_floodNow_24 : decode cX8_floodNow 24 = .ok (.getfield 29, 3) := by decide +kernel
theorem dX8_floodNow_27 : decode cX8_floodNow 27 = .ok (.iload_n 2, 1) := by decide +kernel
theorem dX8_floodNow_28 : decode cX8_floodNow 28 = .ok (.iload_n 2, 1) := by decide +kernel
theorem dX8_floodNow_29 : decode cX8_floodNow 29 = .ok (.iastore, 1) := by decide +kernel
theorem dX8_floodNow_30 : decode cX8_floodNow 30 = .ok (.aload_n 0, 1) := by decide +kernel
theorem dX8_floodNow_31 : decode cX8_floodNow 31 = .ok (.getfield 32, 3) := by decide +kernel
theorem dX8_floodNow_34 : decode cX8_floodNow 34 = .ok (.iload_n 2, 1) := by decide +kernel
theorem dX8_floodNow_35 : decode cX8_floodNow 35 = .ok (.iconst (-1), 1) := by decide +kernel
theorem dX8_floodNow_36 : decode cX8_floodNow 36 = .ok (.iastore, 1) := by decide +kernel
theorem dX8_floodNow_37 : decode cX8_floodNow 37 = .ok (.iinc 2 1, 3) := by decide +kernel
theorem dX8_floodNow_40 : decode cX8_floodNow 40 = .ok (.goto (-34), 3) := by decide +kernel
theorem dX8_floodNow_43 : decode cX8_floodNow 43 = .ok (.iconst 0, 1) := by decide +kernel
theorem dX8_floodNow_44 : decode cX8_floodNow 44 = .ok (.istore_n 2, 1) := by decide +kernel
theorem dX8_floodNow_45 : decode cX8_floodNow 45 = .ok (.iload_n 2, 1) := by decide +kernel
theorem dX8_floodNow_46 : decode cX8_floodNow 46 = .ok (.aload_n 0, 1) := by decide +kernel
theorem dX8_floodNow_47 : decode cX8_floodNow 47 = .ok (.invokevirtual 157, 3) := by decide +kernel
theorem dX8_floodNow_50 : decode cX8_floodNow 50 = .ok (.if_icmp .gt 145, 3) := by decide +kernel
theorem dX8_floodNow_53 : decode cX8_floodNow 53 = .ok (.iconst 0, 1) := by decide +kernel
theorem dX8_floodNow_54 : decode cX8_floodNow 54 = .ok (.istore_n 3, 1) := by decide +kernel
theorem dX8_floodNow_55 : decode cX8_floodNow 55 = .ok (.iload_n 3, 1) := by decide +kernel
theorem dX8_floodNow_56 : decode cX8_floodNow 56 = .ok (.aload_n 0, 1) := by decide +kernel
theorem dX8_floodNow_57 : decode cX8_floodNow 57 = .ok (.getfield 129, 3) := by decide +kernel
theorem dX8_floodNow_60 : decode cX8_floodNow 60 = .ok (.if_icmp .ge 45, 3) := by decide +kernel
theorem dX8_floodNow_63 : decode cX8_floodNow 63 = .ok (.aload_n 0, 1) := by decide +kernel
theorem dX8_floodNow_64 : decode cX8_floodNow 64 = .ok (.getfield 96, 3) := by decide +kernel
theorem dX8_floodNow_67 : decode cX8_floodNow 67 = .ok (.iload_n 3, 1) := by decide +kernel
theorem dX8_floodNow_68 : decode cX8_floodNow 68 = .ok (.aload_n 0, 1) := by decide +kernel
theorem dX8_floodNow_69 : decode cX8_floodNow 69 = .ok (.getfield 25, 3) := by decide +kernel
theorem dX8_floodNow_72 : decode cX8_floodNow 72 = .ok (.iload_n 3, 1) := by decide +kernel
theorem dX8_floodNow_73 : decode cX8_floodNow 73 = .ok (.baload, 1) := by decide +kernel
theorem dX8_floodNow_74 : decode cX8_floodNow 74 = .ok (.ifCond .eq 23, 3) := by decide +kernel
theorem dX8_floodNow_77 : decode cX8_floodNow 77 = .ok (.aload_n 0, 1) := by decide +kernel
theorem dX8_floodNow_78 : decode cX8_floodNow 78 = .ok (.getfield 32, 3) := by decide +kernel
theorem dX8_floodNow_81 : decode cX8_floodNow 81 = .ok (.iload_n 3, 1) := by decide +kernel
theorem dX8_floodNow_82 : decode cX8_floodNow 82 = .ok (.iaload, 1) := by decide +kernel
theorem dX8_floodNow_83 : decode cX8_floodNow 83 = .ok (.bipush (-2), 2) := by decide +kernel
theorem dX8_floodNow_85 : decode cX8_floodNow 85 = .ok (.if_icmp .ne 12, 3) := by decide +kernel
theorem dX8_floodNow_88 : decode cX8_floodNow 88 = .ok (.aload_n 0, 1) := by decide +kernel
theorem dX8_floodNow_89 : decode cX8_floodNow 89 = .ok (.iload_n 3, 1) := by decide +kernel
theorem dX8_floodNow_90 : decode cX8_floodNow 90 = .ok (.iload_n 2, 1) := by decide +kernel
theorem dX8_floodNow_91 : decode cX8_floodNow 91 = .ok (.invokevirtual 161, 3) := by decide +kernel
theorem dX8_floodNow_94 : decode cX8_floodNow 94 = .ok (.goto 4, 3) := by decide +kernel
theorem dX8_floodNow_97 : decode cX8_floodNow 97 = .ok (.iconst (-1), 1) := by decide +kernel
theorem dX8_floodNow_98 : decode cX8_floodNow 98 = .ok (.iastore, 1) := by decide +kernel
theorem dX8_floodNow_99 : decode cX8_floodNow 99 = .ok (.iinc 3 1, 3) := by decide +kernel
theorem dX8_floodNow_102 : decode cX8_floodNow 102 = .ok (.goto (-47), 3) := by decide +kernel
theorem dX8_floodNow_105 : decode cX8_floodNow 105 = .ok (.iconst 0, 1) := by decide +kernel
theorem dX8_floodNow_106 : decode cX8_floodNow 106 = .ok (.istore_n 3, 1) := by decide +kernel
theorem dX8_floodNow_107 : decode cX8_floodNow 107 = .ok (.iload_n 3, 1) := by decide +kernel
theorem dX8_floodNow_108 : decode cX8_floodNow 108 = .ok (.aload_n 0, 1) := by decide +kernel
theorem dX8_floodNow_109 : decode cX8_floodNow 109 = .ok (.getfield 129, 3) := by decide +kernel
theorem dX8_floodNow_112 : decode cX8_floodNow 112 = .ok (.if_icmp .ge 32, 3) := by decide +kernel
theorem dX8_floodNow_115 : decode cX8_floodNow 115 = .ok (.aload_n 0, 1) := by decide +kernel
theorem dX8_floodNow_116 : decode cX8_floodNow 116 = .ok (.getfield 35, 3) := by decide +kernel
theorem dX8_floodNow_119 : decode cX8_floodNow 119 = .ok (.iload_n 3, 1) := by decide +kernel
theorem dX8_floodNow_120 : decode cX8_floodNow 120 = .ok (.dup2, 1) := by decide +kernel
theorem dX8_floodNow_121 : decode cX8_floodNow 121 = .ok (.iaload, 1) := by decide +kernel
theorem dX8_floodNow_122 : decode cX8_floodNow 122 = .ok (.aload_n 0, 1) := by decide +kernel
theorem dX8_floodNow_123 : decode cX8_floodNow 123 = .ok (.iload_n 3, 1) := by decide +kernel
theorem dX8_floodNow_124 : decode cX8_floodNow 124 = .ok (.iload_n 2, 1) := by decide +kernel
theorem dX8_floodNow_125 : decode cX8_floodNow 125 = .ok (.invokevirtual 154, 3) := by decide +kernel
theorem dX8_floodNow_128 : decode cX8_floodNow 128 = .ok (.ifCond .eq 7, 3) := by decide +kernel
theorem dX8_floodNow_131 : decode cX8_floodNow 131 = .ok (.iconst 1, 1) := by decide +kernel
theorem dX8_floodNow_132 : decode cX8_floodNow 132 = .ok (.goto 4, 3) := by decide +kernel
theorem dX8_floodNow_135 : decode cX8_floodNow 135 = .ok (.iconst 0, 1) := by decide +kernel
theorem dX8_floodNow_136 : decode cX8_floodNow 136 = .ok (.iadd, 1) := by decide +kernel
theorem dX8_floodNow_137 : decode cX8_floodNow 137 = .ok (.iastore, 1) := by decide +kernel
theorem dX8_floodNow_138 : decode cX8_floodNow 138 = .ok (.iinc 3 1, 3) := by decide +kernel
theorem dX8_floodNow_141 : decode cX8_floodNow 141 = .ok (.goto (-34), 3) := by decide +kernel
theorem dX8_floodNow_144 : decode cX8_floodNow 144 = .ok (.iconst 0, 1) := by decide +kernel
theorem dX8_floodNow_145 : decode cX8_floodNow 145 = .ok (.istore_n 3, 1) := by decide +kernel
theorem dX8_floodNow_146 : decode cX8_floodNow 146 = .ok (.iload_n 3, 1) := by decide +kernel
theorem dX8_floodNow_147 : decode cX8_floodNow 147 = .ok (.aload_n 0, 1) := by decide +kernel
theorem dX8_floodNow_148 : decode cX8_floodNow 148 = .ok (.getfield 129, 3) := by decide +kernel
theorem dX8_floodNow_151 : decode cX8_floodNow 151 = .ok (.if_icmp .ge 38, 3) := by decide +kernel
theorem dX8_floodNow_154 : decode cX8_floodNow 154 = .ok (.aload_n 0, 1) := by decide +kernel
theorem dX8_floodNow_155 : decode cX8_floodNow 155 = .ok (.getfield 96, 3) := by decide +kernel
theorem dX8_floodNow_158 : decode cX8_floodNow 158 = .ok (.iload_n 3, 1) := by decide +kernel
theorem dX8_floodNow_159 : decode cX8_floodNow 159 = .ok (.iaload, 1) := by decide +kernel
theorem dX8_floodNow_160 : decode cX8_floodNow 160 = .ok (.iconst (-1), 1) := by decide +kernel
theorem dX8_floodNow_161 : decode cX8_floodNow 161 = .ok (.if_icmp .eq 22, 3) := by decide +kernel
theorem dX8_floodNow_164 : decode cX8_floodNow 164 = .ok (.aload_n 0, 1) := by decide +kernel
theorem dX8_floodNow_165 : decode cX8_floodNow 165 = .ok (.getfield 29, 3) := by decide +kernel
theorem dX8_floodNow_168 : decode cX8_floodNow 168 = .ok (.iload_n 3, 1) := by decide +kernel
theorem dX8_floodNow_169 : decode cX8_floodNow 169 = .ok (.aload_n 0, 1) := by decide +kernel
theorem dX8_floodNow_170 : decode cX8_floodNow 170 = .ok (.getfield 96, 3) := by decide +kernel
theorem dX8_floodNow_173 : decode cX8_floodNow 173 = .ok (.iload_n 3, 1) := by decide +kernel
theorem dX8_floodNow_174 : decode cX8_floodNow 174 = .ok (.iaload, 1) := by decide +kernel
theorem dX8_floodNow_175 : decode cX8_floodNow 175 = .ok (.iastore, 1) := by decide +kernel
theorem dX8_floodNow_176 : decode cX8_floodNow 176 = .ok (.aload_n 0, 1) := by decide +kernel
theorem dX8_floodNow_177 : decode cX8_floodNow 177 = .ok (.getfield 32, 3) := by decide +kernel
theorem dX8_floodNow_180 : decode cX8_floodNow 180 = .ok (.iload_n 3, 1) := by decide +kernel
theorem dX8_floodNow_181 : decode cX8_floodNow 181 = .ok (.iload_n 2, 1) := by decide +kernel
theorem dX8_floodNow_182 : decode cX8_floodNow 182 = .ok (.iastore, 1) := by decide +kernel
theorem dX8_floodNow_183 : decode cX8_floodNow 183 = .ok (.iinc 3 1, 3) := by decide +kernel
theorem dX8_floodNow_186 : decode cX8_floodNow 186 = .ok (.goto (-40), 3) := by decide +kernel
theorem dX8_floodNow_189 : decode cX8_floodNow 189 = .ok (.iinc 2 1, 3) := by decide +kernel
theorem dX8_floodNow_192 : decode cX8_floodNow 192 = .ok (.goto (-147), 3) := by decide +kernel
theorem dX8_floodNow_195 : decode cX8_floodNow 195 = .ok (.aload_n 0, 1) := by decide +kernel
theorem dX8_floodNow_196 : decode cX8_floodNow 196 = .ok (.iload_n 2, 1) := by decide +kernel
theorem dX8_floodNow_197 : decode cX8_floodNow 197 = .ok (.putfield 151, 3) := by decide +kernel
theorem dX8_floodNow_200 : decode cX8_floodNow 200 = .ok (.aload_n 0, 1) := by decide +kernel
theorem dX8_floodNow_201 : decode cX8_floodNow 201 = .ok (.invokevirtual 165, 3) := by decide +kernel
theorem dX8_floodNow_204 : decode cX8_floodNow 204 = .ok (.ireturn, 1) := by decide +kernel
theorem dX8_holders_0 : decode cX8_holders 0 = .ok (.iconst 0, 1) := by decide +kernel
theorem dX8_holders_1 : decode cX8_holders 1 = .ok (.istore_n 1, 1) := by decide +kernel
theorem dX8_holders_2 : decode cX8_holders 2 = .ok (.iconst 0, 1) := by decide +kernel
theorem dX8_holders_3 : decode cX8_holders 3 = .ok (.istore_n 2, 1) := by decide +kernel
theorem dX8_holders_4 : decode cX8_holders 4 = .ok (.iload_n 2, 1) := by decide +kernel
theorem dX8_holders_5 : decode cX8_holders 5 = .ok (.aload_n 0, 1) := by decide +kernel
theorem dX8_holders_6 : decode cX8_holders 6 = .ok (.getfield 129, 3) := by decide +kernel
theorem dX8_holders_9 : decode cX8_holders 9 = .ok (.if_icmp .ge 27, 3) := by decide +kernel
theorem dX8_holders_12 : decode cX8_holders 12 = .ok (.iload_n 1, 1) := by decide +kernel
theorem dX8_holders_13 : decode cX8_holders 13 = .ok (.aload_n 0, 1) := by decide +kernel
theorem dX8_holders_14 : decode cX8_holders 14 = .ok (.getfield 29, 3) := by decide +kernel
theorem dX8_holders_17 : decode cX8_holders 17 = .ok (.iload_n 2, 1) := by decide +kernel
theorem dX8_holders_18 : decode cX8_holders 18 = .ok (.iaload, 1) := by decide +kernel
theorem dX8_holders_19 : decode cX8_holders 19 = .ok (.iconst (-1), 1) := by decide +kernel
theorem dX8_holders_20 : decode cX8_holders 20 = .ok (.if_icmp .ne 7, 3) := by decide +kernel
theorem dX8_holders_23 : decode cX8_holders 23 = .ok (.iconst 0, 1) := by decide +kernel
theorem dX8_holders_24 : decode cX8_holders 24 = .ok (.goto 4, 3) := by decide +kernel
theorem dX8_holders_27 : decode cX8_holders 27 = .ok (.iconst 1, 1) := by decide +kernel
theorem dX8_holders_28 : decode cX8_holders 28 = .ok (.iadd, 1) := by decide +kernel
theorem dX8_holders_29 : decode cX8_holders 29 = .ok (.istore_n 1, 1) := by decide +kernel
theorem dX8_holders_30 : decode cX8_holders 30 = .ok (.iinc 2 1, 3) := by decide +kernel
theorem dX8_holders_33 : decode cX8_holders 33 = .ok (.goto (-29), 3) := by decide +kernel
theorem dX8_holders_36 : decode cX8_holders 36 = .ok (.iload_n 1, 1) := by decide +kernel
theorem dX8_holders_37 : decode cX8_holders 37 = .ok (.ireturn, 1) := by decide +kernel
set_option maxRecDepth 20000 in
theorem ggX8_flood_X8_floodNow : GoodIn wsX8_flood wsX8_floodNow := goodIn_r _ [7, 1, 8, 9, 10, 2, 11, 12, 13, 14, 15, 6, 16, 17, 18, 19, 20, 21, 22, 23, 24, 25, 26, 27, 28, 29, 30, 31, 32, 33, 34, 35, 36, 37, 38, 39, 40, 41, 42, 43, 44, 45, 46, 47, 48, 49, 50, 51, 52, 53, 54, 55, 56, 57, 58, 59, 60, 61, 62, 63, 64, 65, 66, 67, 68, 69, 70, 71, 72, 73, 74, 75, 76, 77, 78, 79, 80, 81, 82] (by decide +kernel) (by decide +kernel)
set_option maxRecDepth 20000 in
theorem gX8_flood_X8_floodNow : GoodIn wsX8_flood (wsV RX8 168 RX8 yX8_floodNow wsX8_floodNow) := goodIn_app (goodIn_of _ (by decide +kernel)) ggX8_flood_X8_floodNow
theorem dX8_flood_0 : decode cX8_flood 0 = .ok (.iload_n 1, 1) := by decide +kernel
theorem dX8_flood_1 : decode cX8_flood 1 = .ok (.ifCond .le 13, 3) := by decide +kernel
theorem dX8_flood_4 : decode cX8_flood 4 = .ok (.iload_n 1, 1) := by decide +kernel
theorem dX8_flood_5 : decode cX8_flood 5 = .ok (.iconst 1, 1) := by decide +kernel
theorem dX8_flood_6 : decode cX8_flood 6 = .ok (.aload_n 0, 1) := by decide +kernel
theorem dX8_flood_7 : decode cX8_flood 7 = .ok (.getfield 129, 3) := by decide +kernel
theorem dX8_flood_10 : decode cX8_flood 10 = .ok (.ishl, 1) := by decide +kernel
theorem dX8_flood_11 : decode cX8_flood 11 = .ok (.if_icmp .lt 7, 3) := by decide +kernel
theorem dX8_flood_14 : decode cX8_flood 14 = .ok (.sipush (-1002), 3) := by decide +kernel
theorem dX8_flood_17 : decode cX8_flood 17 = .ok (.ireturn, 1) := by decide +kernel
theorem dX8_flood_18 : decode cX8_flood 18 = .ok (.iconst 1, 1) := by decide +kernel
theorem dX8_flood_19 : decode cX8_flood 19 = .ok (.istore_n 2, 1) := by decide +kernel
theorem dX8_flood_20 : decode cX8_flood 20 = .ok (.iconst 0, 1) := by decide +kernel
theorem dX8_flood_21 : decode cX8_flood 21 = .ok (.istore_n 3, 1) := by decide +kernel
theorem dX8_flood_22 : decode cX8_flood 22 = .ok (.iload_n 3, 1) := by decide +kernel
theorem dX8_flood_23 : decode cX8_flood 23 = .ok (.aload_n 0, 1) := by decide +kernel
theorem dX8_flood_24 : decode cX8_flood 24 = .ok (.getfield 129, 3) := by decide +kernel
theorem dX8_flood_27 : decode cX8_flood 27 = .ok (.if_icmp .ge 36, 3) := by decide +kernel
theorem dX8_flood_30 : decode cX8_flood 30 = .ok (.iload_n 2, 1) := by decide +kernel
theorem dX8_flood_31 : decode cX8_flood 31 = .ok (.ifCond .eq 24, 3) := by decide +kernel
theorem dX8_flood_34 : decode cX8_flood 34 = .ok (.iload_n 1, 1) := by decide +kernel
theorem dX8_flood_35 : decode cX8_flood 35 = .ok (.iload_n 3, 1) := by decide +kernel
theorem dX8_flood_36 : decode cX8_flood 36 = .ok (.ishr, 1) := by decide +kernel
theorem dX8_flood_37 : decode cX8_flood 37 = .ok (.iconst 1, 1) := by decide +kernel
theorem dX8_flood_38 : decode cX8_flood 38 = .ok (.iand, 1) := by decide +kernel
theorem dX8_flood_39 : decode cX8_flood 39 = .ok (.ifCond .eq 12, 3) := by decide +kernel
theorem dX8_flood_42 : decode cX8_flood 42 = .ok (.aload_n 0, 1) := by decide +kernel
theorem dX8_flood_43 : decode cX8_flood 43 = .ok (.getfield 25, 3) := by decide +kernel
theorem dX8_flood_46 : decode cX8_flood 46 = .ok (.iload_n 3, 1) := by decide +kernel
theorem dX8_flood_47 : decode cX8_flood 47 = .ok (.baload, 1) := by decide +kernel
theorem dX8_flood_48 : decode cX8_flood 48 = .ok (.ifCond .eq 7, 3) := by decide +kernel
theorem dX8_flood_51 : decode cX8_flood 51 = .ok (.iconst 1, 1) := by decide +kernel
theorem dX8_flood_52 : decode cX8_flood 52 = .ok (.goto 4, 3) := by decide +kernel
theorem dX8_flood_55 : decode cX8_flood 55 = .ok (.iconst 0, 1) := by decide +kernel
theorem dX8_flood_56 : decode cX8_flood 56 = .ok (.istore_n 2, 1) := by decide +kernel
theorem dX8_flood_57 : decode cX8_flood 57 = .ok (.iinc 3 1, 3) := by decide +kernel
theorem dX8_flood_60 : decode cX8_flood 60 = .ok (.goto (-38), 3) := by decide +kernel
theorem dX8_flood_63 : decode cX8_flood 63 = .ok (.iload_n 2, 1) := by decide +kernel
theorem dX8_flood_64 : decode cX8_flood 64 = .ok (.ifCond .eq 11, 3) := by decide +kernel
theorem dX8_flood_67 : decode cX8_flood 67 = .ok (.aload_n 0, 1) := by decide +kernel
theorem dX8_flood_68 : decode cX8_flood 68 = .ok (.iload_n 1, 1) := by decide +kernel
theorem dX8_flood_69 : decode cX8_flood 69 = .ok (.invokevirtual 168, 3) := by decide +kernel
theorem dX8_flood_72 : decode cX8_flood 72 = .ok (.goto 6, 3) := by decide +kernel
theorem dX8_flood_75 : decode cX8_flood 75 = .ok (.sipush (-1003), 3) := by decide +kernel
theorem dX8_flood_78 : decode cX8_flood 78 = .ok (.ireturn, 1) := by decide +kernel
set_option maxRecDepth 20000 in
theorem ggX8_packetAt_X8_isNode : GoodIn wsX8_packetAt wsX8_isNode := goodIn_r _ [6, 7, 8, 9, 5, 10, 11, 12, 13, 14, 15, 16, 17, 18, 19, 20, 21, 22, 23, 24, 25, 26, 27, 28, 29, 30, 31, 32, 33, 34, 35, 36, 37, 38, 39, 40, 41, 42, 43, 44, 45, 46, 47, 48, 49, 50, 51, 52] (by decide +kernel) (by decide +kernel)
set_option maxRecDepth 20000 in
theorem gX8_packetAt_X8_isNode : GoodIn wsX8_packetAt (wsV RX8 147 RX8 yX8_isNode wsX8_isNode) := goodIn_app (goodIn_of _ (by decide +kernel)) ggX8_packetAt_X8_isNode
theorem dX8_packetAt_0 : decode cX8_packetAt 0 = .ok (.aload_n 0, 1) := by decide +kernel
theorem dX8_packetAt_1 : decode cX8_packetAt 1 = .ok (.iload_n 1, 1) := by decide +kernel
theorem dX8_packetAt_2 : decode cX8_packetAt 2 = .ok (.invokevirtual 147, 3) := by decide +kernel
theorem dX8_packetAt_5 : decode cX8_packetAt 5 = .ok (.ifCond .eq 12, 3) := by decide +kernel
theorem dX8_packetAt_8 : decode cX8_packetAt 8 = .ok (.aload_n 0, 1) := by decide +kernel
theorem dX8_packetAt_9 : decode cX8_packetAt 9 = .ok (.getfield 29, 3) := by decide +kernel
theorem dX8_packetAt_12 : decode cX8_packetAt 12 = .ok (.iload_n 1, 1) := by decide +kernel
theorem dX8_packetAt_13 : decode cX8_packetAt 13 = .ok (.iaload, 1) := by decide +kernel
theorem dX8_packetAt_14 : decode cX8_packetAt 14 = .ok (.goto 6, 3) := by decide +kernel
theorem dX8_packetAt_17 : decode cX8_packetAt 17 = .ok (.sipush (-1001), 3) := by decide +kernel
theorem dX8_packetAt_20 : decode cX8_packetAt 20 = .ok (.ireturn, 1) := by decide +kernel
theorem dX8_hops_0 : decode cX8_hops 0 = .ok (.aload_n 0, 1) := by decide +kernel
theorem dX8_hops_1 : decode cX8_hops 1 = .ok (.getfield 32, 3) := by decide +kernel
theorem dX8_hops_4 : decode cX8_hops 4 = .ok (.iload_n 1, 1) := by decide +kernel
theorem dX8_hops_5 : decode cX8_hops 5 = .ok (.iaload, 1) := by decide +kernel
theorem dX8_hops_6 : decode cX8_hops 6 = .ok (.bipush (-2), 2) := by decide +kernel
theorem dX8_hops_8 : decode cX8_hops 8 = .ok (.if_icmp .ne 7, 3) := by decide +kernel
theorem dX8_hops_11 : decode cX8_hops 11 = .ok (.iconst (-1), 1) := by decide +kernel
theorem dX8_hops_12 : decode cX8_hops 12 = .ok (.goto 11, 3) := by decide +kernel
theorem dX8_hops_15 : decode cX8_hops 15 = .ok (.aload_n 0, 1) := by decide +kernel
theorem dX8_hops_16 : decode cX8_hops 16 = .ok (.getfield 32, 3) := by decide +kernel
theorem dX8_hops_19 : decode cX8_hops 19 = .ok (.iload_n 1, 1) := by decide +kernel
theorem dX8_hops_20 : decode cX8_hops 20 = .ok (.iaload, 1) := by decide +kernel
theorem dX8_hops_21 : decode cX8_hops 21 = .ok (.iconst 1, 1) := by decide +kernel
theorem dX8_hops_22 : decode cX8_hops 22 = .ok (.iadd, 1) := by decide +kernel
theorem dX8_hops_23 : decode cX8_hops 23 = .ok (.ireturn, 1) := by decide +kernel
set_option maxRecDepth 20000 in
theorem ggX8_hopCount_X8_isNode : GoodIn wsX8_hopCount wsX8_isNode := goodIn_r _ [5, 6, 7, 8, 4, 9, 15, 16, 17, 18, 19, 20, 21, 22, 23, 24, 25, 26, 27, 28, 29, 30, 31, 32, 33, 34, 35, 36, 37, 38, 39, 40, 41, 42, 43, 44, 45, 46, 47, 48, 49, 50, 51, 52, 53, 54, 55, 56] (by decide +kernel) (by decide +kernel)
set_option maxRecDepth 20000 in
theorem gX8_hopCount_X8_isNode : GoodIn wsX8_hopCount (wsV RX8 147 RX8 yX8_isNode wsX8_isNode) := goodIn_app (goodIn_of _ (by decide +kernel)) ggX8_hopCount_X8_isNode
set_option maxRecDepth 20000 in
theorem ggX8_hopCount_X8_hops : GoodIn wsX8_hopCount wsX8_hops := goodIn_r _ [13, 14, 15, 16, 17, 18, 19, 20, 21, 22, 23, 24, 25, 26, 27, 28, 29, 30, 31, 32, 33, 34, 35, 36, 37, 38, 39, 40, 41, 42, 43, 44, 45, 46, 47, 48, 49, 50, 51, 52, 53, 54, 55, 56] (by decide +kernel) (by decide +kernel)
set_option maxRecDepth 20000 in
theorem gX8_hopCount_X8_hops : GoodIn wsX8_hopCount (wsV RX8 172 RX8 yX8_hops wsX8_hops) := goodIn_app (goodIn_of _ (by decide +kernel)) ggX8_hopCount_X8_hops
theorem dX8_hopCount_0 : decode cX8_hopCount 0 = .ok (.aload_n 0, 1) := by decide +kernel
theorem dX8_hopCount_1 : decode cX8_hopCount 1 = .ok (.iload_n 1, 1) := by decide +kernel
theorem dX8_hopCount_2 : decode cX8_hopCount 2 = .ok (.invokevirtual 147, 3) := by decide +kernel
theorem dX8_hopCount_5 : decode cX8_hopCount 5 = .ok (.ifCond .eq 11, 3) := by decide +kernel
theorem dX8_hopCount_8 : decode cX8_hopCount 8 = .ok (.aload_n 0, 1) := by decide +kernel
theorem dX8_hopCount_9 : decode cX8_hopCount 9 = .ok (.iload_n 1, 1) := by decide +kernel
theorem dX8_hopCount_10 : decode cX8_hopCount 10 = .ok (.invokevirtual 172, 3) := by decide +kernel
theorem dX8_hopCount_13 : decode cX8_hopCount 13 = .ok (.goto 6, 3) := by decide +kernel
theorem dX8_hopCount_16 : decode cX8_hopCount 16 = .ok (.sipush (-1001), 3) := by decide +kernel
theorem dX8_hopCount_19 : decode cX8_hopCount 19 = .ok (.ireturn, 1) := by decide +kernel
theorem dX8_floodLength_0 : decode cX8_floodLength 0 = .ok (.aload_n 0, 1) := by decide +kernel
theorem dX8_floodLength_1 : decode cX8_floodLength 1 = .ok (.getfield 151, 3) := by decide +kernel
theorem dX8_floodLength_4 : decode cX8_floodLength 4 = .ok (.ireturn, 1) := by decide +kernel
set_option maxRecDepth 20000 in
theorem ggX8_addStream_X8_isNode : GoodIn wsX8_addStream wsX8_isNode := goodIn_r _ [12, 13, 14, 15, 11, 16, 17, 18, 19, 20, 21, 22, 23, 24, 25, 26, 27, 28, 29, 30, 31, 32, 33, 34, 35, 36, 37, 38, 39, 40, 41, 42, 43, 44, 45, 46, 47, 48, 49, 50, 51, 52, 53, 54, 55, 56, 57, 58] (by decide +kernel) (by decide +kernel)
set_option maxRecDepth 20000 in
theorem gX8_addStream_X8_isNode : GoodIn wsX8_addStream (wsV RX8 147 RX8 yX8_isNode wsX8_isNode) := goodIn_app (goodIn_of _ (by decide +kernel)) ggX8_addStream_X8_isNode
set_option maxRecDepth 20000 in
theorem ggX8_addStream_X8_within : GoodIn wsX8_addStream wsX8_within := goodIn_r _ [16] (by decide +kernel) (by decide +kernel)
set_option maxRecDepth 20000 in
theorem gX8_addStream_X8_within : GoodIn wsX8_addStream (va_wsS RX8 102 yX8_within wsX8_within) := goodIn_app (goodIn_of _ (by decide +kernel)) ggX8_addStream_X8_within
theorem dX8_addStream_0 : decode cX8_addStream 0 = .ok (.aload_n 0, 1) := by decide +kernel
theorem dX8_addStream_1 : decode cX8_addStream 1 = .ok (.iload_n 1, 1) := by decide +kernel
theorem dX8_addStream_2 : decode cX8_addStream 2 = .ok (.invokevirtual 147, 3) := by decide +kernel
theorem dX8_addStream_5 : decode cX8_addStream 5 = .ok (.ifCond .ne 7, 3) := by decide +kernel
theorem dX8_addStream_8 : decode cX8_addStream 8 = .ok (.sipush (-1001), 3) := by decide +kernel
theorem dX8_addStream_11 : decode cX8_addStream 11 = .ok (.ireturn, 1) := by decide +kernel
theorem dX8_addStream_12 : decode cX8_addStream 12 = .ok (.iload_n 2, 1) := by decide +kernel
theorem dX8_addStream_13 : decode cX8_addStream 13 = .ok (.iconst 1, 1) := by decide +kernel
theorem dX8_addStream_14 : decode cX8_addStream 14 = .ok (.bipush 9, 2) := by decide +kernel
theorem dX8_addStream_16 : decode cX8_addStream 16 = .ok (.invokestatic 102, 3) := by decide +kernel
theorem dX8_addStream_19 : decode cX8_addStream 19 = .ok (.ifCond .eq 13, 3) := by decide +kernel
theorem dX8_addStream_22 : decode cX8_addStream 22 = .ok (.iload_n 3, 1) := by decide +kernel
theorem dX8_addStream_23 : decode cX8_addStream 23 = .ok (.iconst 0, 1) := by decide +kernel
theorem dX8_addStream_24 : decode cX8_addStream 24 = .ok (.bipush 99, 2) := by decide +kernel
theorem dX8_addStream_26 : decode cX8_addStream 26 = .ok (.invokestatic 102, 3) := by decide +kernel
theorem dX8_addStream_29 : decode cX8_addStream 29 = .ok (.ifCond .ne 7, 3) := by decide +kernel
theorem dX8_addStream_32 : decode cX8_addStream 32 = .ok (.sipush (-1002), 3) := by decide +kernel
theorem dX8_addStream_35 : decode cX8_addStream 35 = .ok (.ireturn, 1) := by decide +kernel
theorem dX8_addStream_36 : decode cX8_addStream 36 = .ok (.aload_n 0, 1) := by decide +kernel
theorem dX8_addStream_37 : decode cX8_addStream 37 = .ok (.getfield 141, 3) := by decide +kernel
theorem dX8_addStream_40 : decode cX8_addStream 40 = .ok (.bipush 6, 2) := by decide +kernel
theorem dX8_addStream_42 : decode cX8_addStream 42 = .ok (.if_icmp .ne 7, 3) := by decide +kernel
theorem dX8_addStream_45 : decode cX8_addStream 45 = .ok (.sipush (-1004), 3) := by decide +kernel
theorem dX8_addStream_48 : decode cX8_addStream 48 = .ok (.ireturn, 1) := by decide +kernel
theorem dX8_addStream_49 : decode cX8_addStream 49 = .ok (.aload_n 0, 1) := by decide +kernel
theorem dX8_addStream_50 : decode cX8_addStream 50 = .ok (.getfield 57, 3) := by decide +kernel
theorem dX8_addStream_53 : decode cX8_addStream 53 = .ok (.aload_n 0, 1) := by decide +kernel
theorem dX8_addStream_54 : decode cX8_addStream 54 = .ok (.getfield 141, 3) := by decide +kernel
theorem dX8_addStream_57 : decode cX8_addStream 57 = .ok (.iload_n 1, 1) := by decide +kernel
theorem dX8_addStream_58 : decode cX8_addStream 58 = .ok (.iastore, 1) := by decide +kernel
theorem dX8_addStream_59 : decode cX8_addStream 59 = .ok (.aload_n 0, 1) := by decide +kernel
theorem dX8_addStream_60 : decode cX8_addStream 60 = .ok (.getfield 60, 3) := by decide +kernel
theorem dX8_addStream_63 : decode cX8_addStream 63 = .ok (.aload_n 0, 1) := by decide +kernel
theorem dX8_addStream_64 : decode cX8_addStream 64 = .ok (.getfield 141, 3) := by decide +kernel
theorem dX8_addStream_67 : decode cX8_addStream 67 = .ok (.iload_n 2, 1) := by decide +kernel
theorem dX8_addStream_68 : decode cX8_addStream 68 = .ok (.iastore, 1) := by decide +kernel
theorem dX8_addStream_69 : decode cX8_addStream 69 = .ok (.aload_n 0, 1) := by decide +kernel
theorem dX8_addStream_70 : decode cX8_addStream 70 = .ok (.getfield 63, 3) := by decide +kernel
theorem dX8_addStream_73 : decode cX8_addStream 73 = .ok (.aload_n 0, 1) := by decide +kernel
theorem dX8_addStream_74 : decode cX8_addStream 74 = .ok (.getfield 141, 3) := by decide +kernel
theorem dX8_addStream_77 : decode cX8_addStream 77 = .ok (.iload_n 3, 1) := by decide +kernel
theorem dX8_addStream_78 : decode cX8_addStream 78 = .ok (.iastore, 1) := by decide +kernel
theorem dX8_addStream_79 : decode cX8_addStream 79 = .ok (.aload_n 0, 1) := by decide +kernel
theorem dX8_addStream_80 : decode cX8_addStream 80 = .ok (.getfield 66, 3) := by decide +kernel
theorem dX8_addStream_83 : decode cX8_addStream 83 = .ok (.aload_n 0, 1) := by decide +kernel
theorem dX8_addStream_84 : decode cX8_addStream 84 = .ok (.getfield 141, 3) := by decide +kernel
theorem dX8_addStream_87 : decode cX8_addStream 87 = .ok (.iconst 0, 1) := by decide +kernel
theorem dX8_addStream_88 : decode cX8_addStream 88 = .ok (.iastore, 1) := by decide +kernel
theorem dX8_addStream_89 : decode cX8_addStream 89 = .ok (.aload_n 0, 1) := by decide +kernel
theorem dX8_addStream_90 : decode cX8_addStream 90 = .ok (.getfield 72, 3) := by decide +kernel
theorem dX8_addStream_93 : decode cX8_addStream 93 = .ok (.aload_n 0, 1) := by decide +kernel
theorem dX8_addStream_94 : decode cX8_addStream 94 = .ok (.getfield 141, 3) := by decide +kernel
theorem dX8_addStream_97 : decode cX8_addStream 97 = .ok (.iconst 0, 1) := by decide +kernel
theorem dX8_addStream_98 : decode cX8_addStream 98 = .ok (.iastore, 1) := by decide +kernel
theorem dX8_addStream_99 : decode cX8_addStream 99 = .ok (.aload_n 0, 1) := by decide +kernel
theorem dX8_addStream_100 : decode cX8_addStream 100 = .ok (.getfield 75, 3) := by decide +kernel
theorem dX8_addStream_103 : decode cX8_addStream 103 = .ok (.aload_n 0, 1) := by decide +kernel
theorem dX8_addStream_104 : decode cX8_addStream 104 = .ok (.getfield 141, 3) := by decide +kernel
theorem dX8_addStream_107 : decode cX8_addStream 107 = .ok (.iconst 0, 1) := by decide +kernel
theorem dX8_addStream_108 : decode cX8_addStream 108 = .ok (.iastore, 1) := by decide +kernel
theorem dX8_addStream_109 : decode cX8_addStream 109 = .ok (.aload_n 0, 1) := by decide +kernel
theorem dX8_addStream_110 : decode cX8_addStream 110 = .ok (.dup, 1) := by decide +kernel
theorem dX8_addStream_111 : decode cX8_addStream 111 = .ok (.getfield 141, 3) := by decide +kernel
theorem dX8_addStream_114 : decode cX8_addStream 114 = .ok (.iconst 1, 1) := by decide +kernel
theorem dX8_addStream_115 : decode cX8_addStream 115 = .ok (.iadd, 1) := by decide +kernel
theorem dX8_addStream_116 : decode cX8_addStream 116 = .ok (.putfield 141, 3) := by decide +kernel
theorem dX8_addStream_119 : decode cX8_addStream 119 = .ok (.aload_n 0, 1) := by decide +kernel
theorem dX8_addStream_120 : decode cX8_addStream 120 = .ok (.getfield 141, 3) := by decide +kernel
theorem dX8_addStream_123 : decode cX8_addStream 123 = .ok (.iconst 1, 1) := by decide +kernel
theorem dX8_addStream_124 : decode cX8_addStream 124 = .ok (.isub, 1) := by decide +kernel
theorem dX8_addStream_125 : decode cX8_addStream 125 = .ok (.ireturn, 1) := by decide +kernel
set_option maxRecDepth 20000 in
theorem ggX8_isStream_X8_within : GoodIn wsX8_isStream wsX8_within := goodIn_r _ [5] (by decide +kernel) (by decide +kernel)
set_option maxRecDepth 20000 in
theorem gX8_isStream_X8_within : GoodIn wsX8_isStream (va_wsS RX8 102 yX8_within wsX8_within) := goodIn_app (goodIn_of _ (by decide +kernel)) ggX8_isStream_X8_within
theorem dX8_isStream_0 : decode cX8_isStream 0 = .ok (.iload_n 1, 1) := by decide +kernel
theorem dX8_isStream_1 : decode cX8_isStream 1 = .ok (.iconst 0, 1) := by decide +kernel
theorem dX8_isStream_2 : decode cX8_isStream 2 = .ok (.aload_n 0, 1) := by decide +kernel
theorem dX8_isStream_3 : decode cX8_isStream 3 = .ok (.getfield 141, 3) := by decide +kernel
theorem dX8_isStream_6 : decode cX8_isStream 6 = .ok (.iconst 1, 1) := by decide +kernel
theorem dX8_isStream_7 : decode cX8_isStream 7 = .ok (.isub, 1) := by decide +kernel
theorem dX8_isStream_8 : decode cX8_isStream 8 = .ok (.invokestatic 102, 3) := by decide +kernel
theorem dX8_isStream_11 : decode cX8_isStream 11 = .ok (.ireturn, 1) := by decide +kernel
set_option maxRecDepth 20000 in
theorem ggX8_removeStream_X8_isStream : GoodIn wsX8_removeStream wsX8_isStream := goodIn_r _ [14, 1, 15, 16, 13, 17, 18, 19, 20, 21, 22, 23, 24, 25, 26, 27, 28, 29, 30, 31, 32, 33, 34, 35, 36, 37, 38, 39, 40, 41, 42, 43, 44, 45, 46, 47, 48, 49, 50, 51, 52, 53, 54, 55, 56, 57, 58, 59] (by decide +kernel) (by decide +kernel)
set_option maxRecDepth 20000 in
theorem gX8_removeStream_X8_isStream : GoodIn wsX8_removeStream (wsV RX8 175 RX8 yX8_isStream wsX8_isStream) := goodIn_app (goodIn_of _ (by decide +kernel)) ggX8_removeStream_X8_isStream
theorem dX8_removeStream_0 : decode cX8_removeStream 0 = .ok (.aload_n 0, 1) := by decide +kernel
theorem dX8_removeStream_1 : decode cX8_removeStream 1 = .ok (.iload_n 1, 1) := by decide +kernel
theorem dX8_removeStream_2 : decode cX8_removeStream 2 = .ok (.invokevirtual 175, 3) := by decide +kernel
theorem dX8_removeStream_5 : decode cX8_removeStream 5 = .ok (.ifCond .ne 7, 3) := by decide +kernel
theorem dX8_removeStream_8 : decode cX8_removeStream 8 = .ok (.sipush (-1001), 3) := by decide +kernel
theorem dX8_removeStream_11 : decode cX8_removeStream 11 = .ok (.ireturn, 1) := by decide +kernel
theorem dX8_removeStream_12 : decode cX8_removeStream 12 = .ok (.aload_n 0, 1) := by decide +kernel
theorem dX8_removeStream_13 : decode cX8_removeStream 13 = .ok (.dup, 1) := by decide +kernel
theorem dX8_removeStream_14 : decode cX8_removeStream 14 = .ok (.getfield 141, 3) := by decide +kernel
theorem dX8_removeStream_17 : decode cX8_removeStream 17 = .ok (.iconst 1, 1) := by decide +kernel
theorem dX8_removeStream_18 : decode cX8_removeStream 18 = .ok (.isub, 1) := by decide +kernel
theorem dX8_removeStream_19 : decode cX8_removeStream 19 = .ok (.putfield 141, 3) := by decide +kernel
theorem dX8_removeStream_22 : decode cX8_removeStream 22 = .ok (.iload_n 1, 1) := by decide +kernel
theorem dX8_removeStream_23 : decode cX8_removeStream 23 = .ok (.istore_n 2, 1) := by decide +kernel
theorem dX8_removeStream_24 : decode cX8_removeStream 24 = .ok (.iload_n 2, 1) := by decide +kernel
theorem dX8_removeStream_25 : decode cX8_removeStream 25 = .ok (.aload_n 0, 1) := by decide +kernel
theorem dX8_removeStream_26 : decode cX8_removeStream 26 = .ok (.getfield 141, 3) := by decide +kernel
theorem dX8_removeStream_29 : decode cX8_removeStream 29 = .ok (.if_icmp .ge 128, 3) := by decide +kernel
theorem dX8_removeStream_32 : decode cX8_removeStream 32 = .ok (.aload_n 0, 1) := by decide +kernel
theorem dX8_removeStream_33 : decode cX8_removeStream 33 = .ok (.getfield 57, 3) := by decide +kernel
theorem dX8_removeStream_36 : decode cX8_removeStream 36 = .ok (.iload_n 2, 1) := by decide +kernel
theorem dX8_removeStream_37 : decode cX8_removeStream 37 = .ok (.aload_n 0, 1) := by decide +kernel
theorem dX8_removeStream_38 : decode cX8_removeStream 38 = .ok (.getfield 57, 3) := by decide +kernel
theorem dX8_removeStream_41 : decode cX8_removeStream 41 = .ok (.iload_n 2, 1) := by decide +kernel
theorem dX8_removeStream_42 : decode cX8_removeStream 42 = .ok (.iconst 1, 1) := by decide +kernel
theorem dX8_removeStream_43 : decode cX8_removeStream 43 = .ok (.iadd, 1) := by decide +kernel
theorem dX8_removeStream_44 : decode cX8_removeStream 44 = .ok (.iaload, 1) := by decide +kernel
theorem dX8_removeStream_45 : decode cX8_removeStream 45 = .ok (.iastore, 1) := by decide +kernel
theorem dX8_removeStream_46 : decode cX8_removeStream 46 = .ok (.aload_n 0, 1) := by decide +kernel
theorem dX8_removeStream_47 : decode cX8_removeStream 47 = .ok (.getfield 60, 3) := by decide +kernel
theorem dX8_removeStream_50 : decode cX8_removeStream 50 = .ok (.iload_n 2, 1) := by decide +kernel
theorem dX8_removeStream_51 : decode cX8_removeStream 51 = .ok (.aload_n 0, 1) := by decide +kernel
theorem dX8_removeStream_52 : decode cX8_removeStream 52 = .ok (.getfield 60, 3) := by decide +kernel
theorem dX8_removeStream_55 : decode cX8_removeStream 55 = .ok (.iload_n 2, 1) := by decide +kernel
theorem dX8_removeStream_56 : decode cX8_removeStream 56 = .ok (.iconst 1, 1) := by decide +kernel
theorem dX8_removeStream_57 : decode cX8_removeStream 57 = .ok (.iadd, 1) := by decide +kernel
theorem dX8_removeStream_58 : decode cX8_removeStream 58 = .ok (.iaload, 1) := by decide +kernel
theorem dX8_removeStream_59 : decode cX8_removeStream 59 = .ok (.iastore, 1) := by decide +kernel
theorem dX8_removeStream_60 : decode cX8_removeStream 60 = .ok (.aload_n 0, 1) := by decide +kernel
theorem dX8_removeStream_61 : decode cX8_removeStream 61 = .ok (.getfield 63, 3) := by decide +kernel
theorem dX8_removeStream_64 : decode cX8_removeStream 64 = .ok (.iload_n 2, 1) := by decide +kernel
theorem dX8_removeStream_65 : decode cX8_removeStream 65 = .ok (.aload_n 0, 1) := by decide +kernel
theorem dX8_removeStream_66 : decode cX8_removeStream 66 = .ok (.getfield 63, 3) := by decide +kernel
theorem dX8_removeStream_69 : decode cX8_removeStream 69 = .ok (.iload_n 2, 1) := by decide +kernel
theorem dX8_removeStream_70 : decode cX8_removeStream 70 = .ok (.iconst 1, 1) := by decide +kernel
theorem dX8_removeStream_71 : decode cX8_removeStream 71 = .ok (.iadd, 1) := by decide +kernel
theorem dX8_removeStream_72 : decode cX8_removeStream 72 = .ok (.iaload, 1) := by decide +kernel
theorem dX8_removeStream_73 : decode cX8_removeStream 73 = .ok (.iastore, 1) := by decide +kernel
theorem dX8_removeStream_74 : decode cX8_removeStream 74 = .ok (.aload_n 0, 1) := by decide +kernel
theorem dX8_removeStream_75 : decode cX8_removeStream 75 = .ok (.getfield 66, 3) := by decide +kernel
theorem dX8_removeStream_78 : decode cX8_removeStream 78 = .ok (.iload_n 2, 1) := by decide +kernel
theorem dX8_removeStream_79 : decode cX8_removeStream 79 = .ok (.aload_n 0, 1) := by decide +kernel
theorem dX8_removeStream_80 : decode cX8_removeStream 80 = .ok (.getfield 66, 3) := by decide +kernel
theorem dX8_removeStream_83 : decode cX8_removeStream 83 = .ok (.iload_n 2, 1) := by decide +kernel
theorem dX8_removeStream_84 : decode cX8_removeStream 84 = .ok (.iconst 1, 1) := by decide +kernel
theorem dX8_removeStream_85 : decode cX8_removeStream 85 = .ok (.iadd, 1) := by decide +kernel
theorem dX8_removeStream_86 : decode cX8_removeStream 86 = .ok (.iaload, 1) := by decide +kernel
theorem dX8_removeStream_87 : decode cX8_removeStream 87 = .ok (.iastore, 1) := by decide +kernel
theorem dX8_removeStream_88 : decode cX8_removeStream 88 = .ok (.aload_n 0, 1) := by decide +kernel
theorem dX8_removeStream_89 : decode cX8_removeStream 89 = .ok (.getfield 72, 3) := by decide +kernel
theorem dX8_removeStream_92 : decode cX8_removeStream 92 = .ok (.iload_n 2, 1) := by decide +kernel
theorem dX8_removeStream_93 : decode cX8_removeStream 93 = .ok (.aload_n 0, 1) := by decide +kernel
theorem dX8_removeStream_94 : decode cX8_removeStream 94 = .ok (.getfield 72, 3) := by decide +kernel
theorem dX8_removeStream_97 : decode cX8_removeStream 97 = .ok (.iload_n 2, 1) := by decide +kernel
theorem dX8_removeStream_98 : decode cX8_removeStream 98 = .ok (.iconst 1, 1) := by decide +kernel
theorem dX8_removeStream_99 : decode cX8_removeStream 99 = .ok (.iadd, 1) := by decide +kernel
theorem dX8_removeStream_100 : decode cX8_removeStream 100 = .ok (.iaload, 1) := by decide +kernel
theorem dX8_removeStream_101 : decode cX8_removeStream 101 = .ok (.iastore, 1) := by decide +kernel
theorem dX8_removeStream_102 : decode cX8_removeStream 102 = .ok (.aload_n 0, 1) := by decide +kernel
theorem dX8_removeStream_103 : decode cX8_removeStream 103 = .ok (.getfield 75, 3) := by decide +kernel
theorem dX8_removeStream_106 : decode cX8_removeStream 106 = .ok (.iload_n 2, 1) := by decide +kernel
theorem dX8_removeStream_107 : decode cX8_removeStream 107 = .ok (.aload_n 0, 1) := by decide +kernel
theorem dX8_removeStream_108 : decode cX8_removeStream 108 = .ok (.getfield 75, 3) := by decide +kernel
theorem dX8_removeStream_111 : decode cX8_removeStream 111 = .ok (.iload_n 2, 1) := by decide +kernel
theorem dX8_removeStream_112 : decode cX8_removeStream 112 = .ok (.iconst 1, 1) := by decide +kernel
theorem dX8_removeStream_113 : decode cX8_removeStream 113 = .ok (.iadd, 1) := by decide +kernel
theorem dX8_removeStream_114 : decode cX8_removeStream 114 = .ok (.iaload, 1) := by decide +kernel
theorem dX8_removeStream_115 : decode cX8_removeStream 115 = .ok (.iastore, 1) := by decide +kernel
theorem dX8_removeStream_116 : decode cX8_removeStream 116 = .ok (.iconst 0, 1) := by decide +kernel
theorem dX8_removeStream_117 : decode cX8_removeStream 117 = .ok (.istore_n 3, 1) := by decide +kernel
theorem dX8_removeStream_118 : decode cX8_removeStream 118 = .ok (.iload_n 3, 1) := by decide +kernel
theorem dX8_removeStream_119 : decode cX8_removeStream 119 = .ok (.iconst 4, 1) := by decide +kernel
theorem dX8_removeStream_120 : decode cX8_removeStream 120 = .ok (.if_icmp .ge 31, 3) := by decide +kernel
theorem dX8_removeStream_123 : decode cX8_removeStream 123 = .ok (.aload_n 0, 1) := by decide +kernel
theorem dX8_removeStream_124 : decode cX8_removeStream 124 = .ok (.getfield 69, 3) := by decide +kernel
theorem dX8_removeStream_127 : decode cX8_removeStream 127 = .ok (.iconst 4, 1) := by decide +kernel
theorem dX8_removeStream_128 : decode cX8_removeStream 128 = .ok (.iload_n 2, 1) := by decide +kernel
theorem dX8_removeStream_129 : decode cX8_removeStream 129 = .ok (.imul, 1) := by decide +kernel
theorem dX8_removeStream_130 : decode cX8_removeStream 130 = .ok (.iload_n 3, 1) := by decide +kernel
theorem dX8_removeStream_131 : decode cX8_removeStream 131 = .ok (.iadd, 1) := by decide +kernel
theorem dX8_removeStream_132 : decode cX8_removeStream 132 = .ok (.aload_n 0, 1) := by decide +kernel
theorem dX8_removeStream_133 : decode cX8_removeStream 133 = .ok (.getfield 69, 3) := by decide +kernel
theorem dX8_removeStream_136 : decode cX8_removeStream 136 = .ok (.iconst 4, 1) := by decide +kernel
theorem dX8_removeStream_137 : decode cX8_removeStream 137 = .ok (.iload_n 2, 1) := by decide +kernel
theorem dX8_removeStream_138 : decode cX8_removeStream 138 = .ok (.imul, 1) := by decide +kernel
theorem dX8_removeStream_139 : decode cX8_removeStream 139 = .ok (.iconst 4, 1) := by decide +kernel
theorem dX8_removeStream_140 : decode cX8_removeStream 140 = .ok (.iadd, 1) := by decide +kernel
theorem dX8_removeStream_141 : decode cX8_removeStream 141 = .ok (.iload_n 3, 1) := by decide +kernel
theorem dX8_removeStream_142 : decode cX8_removeStream 142 = .ok (.iadd, 1) := by decide +kernel
theorem dX8_removeStream_143 : decode cX8_removeStream 143 = .ok (.iaload, 1) := by decide +kernel
theorem dX8_removeStream_144 : decode cX8_removeStream 144 = .ok (.iastore, 1) := by decide +kernel
theorem dX8_removeStream_145 : decode cX8_removeStream 145 = .ok (.iinc 3 1, 3) := by decide +kernel
theorem dX8_removeStream_148 : decode cX8_removeStream 148 = .ok (.goto (-30), 3) := by decide +kernel
theorem dX8_removeStream_151 : decode cX8_removeStream 151 = .ok (.iinc 2 1, 3) := by decide +kernel
theorem dX8_removeStream_154 : decode cX8_removeStream 154 = .ok (.goto (-130), 3) := by decide +kernel
theorem dX8_removeStream_157 : decode cX8_removeStream 157 = .ok (.aload_n 0, 1) := by decide +kernel
theorem dX8_removeStream_158 : decode cX8_removeStream 158 = .ok (.iconst 0, 1) := by decide +kernel
theorem dX8_removeStream_159 : decode cX8_removeStream 159 = .ok (.putfield 144, 3) := by decide +kernel
theorem dX8_removeStream_162 : decode cX8_removeStream 162 = .ok (.aload_n 0, 1) := by decide +kernel
theorem dX8_removeStream_163 : decode cX8_removeStream 163 = .ok (.getfield 141, 3) := by decide +kernel
theorem dX8_removeStream_166 : decode cX8_removeStream 166 = .ok (.ireturn, 1) := by decide +kernel
set_option maxRecDepth 20000 in
theorem ggX8_waitingPackets_X8_isStream : GoodIn wsX8_waitingPackets wsX8_isStream := goodIn_r _ [6, 7, 8, 9, 5, 10, 11, 12, 13, 14, 15, 16, 17, 18, 19, 20, 21, 22, 23, 24, 25, 26, 27, 28, 29, 30, 31, 32, 33, 34, 35, 36, 37, 38, 39, 40, 41, 42, 43, 44, 45, 46, 47, 48, 49, 50, 51, 52] (by decide +kernel) (by decide +kernel)
set_option maxRecDepth 20000 in
theorem gX8_waitingPackets_X8_isStream : GoodIn wsX8_waitingPackets (wsV RX8 175 RX8 yX8_isStream wsX8_isStream) := goodIn_app (goodIn_of _ (by decide +kernel)) ggX8_waitingPackets_X8_isStream
theorem dX8_waitingPackets_0 : decode cX8_waitingPackets 0 = .ok (.aload_n 0, 1) := by decide +kernel
theorem dX8_waitingPackets_1 : decode cX8_waitingPackets 1 = .ok (.iload_n 1, 1) := by decide +kernel
theorem dX8_waitingPackets_2 : decode cX8_waitingPackets 2 = .ok (.invokevirtual 175, 3) := by decide +kernel
theorem dX8_waitingPackets_5 : decode cX8_waitingPackets 5 = .ok (.ifCond .eq 12, 3) := by decide +kernel
theorem dX8_waitingPackets_8 : decode cX8_waitingPackets 8 = .ok (.aload_n 0, 1) := by decide +kernel
theorem dX8_waitingPackets_9 : decode cX8_waitingPackets 9 = .ok (.getfield 66, 3) := by decide +kernel
theorem dX8_waitingPackets_12 : decode cX8_waitingPackets 12 = .ok (.iload_n 1, 1) := by decide +kernel
theorem dX8_waitingPackets_13 : decode cX8_waitingPackets 13 = .ok (.iaload, 1) := by decide +kernel
theorem dX8_waitingPackets_14 : decode cX8_waitingPackets 14 = .ok (.goto 6, 3) := by decide +kernel
theorem dX8_waitingPackets_17 : decode cX8_waitingPackets 17 = .ok (.sipush (-1001), 3) := by decide +kernel
theorem dX8_waitingPackets_20 : decode cX8_waitingPackets 20 = .ok (.ireturn, 1) := by decide +kernel
set_option maxRecDepth 20000 in
theorem ggX8_deliveredPackets_X8_isStream : GoodIn wsX8_deliveredPackets wsX8_isStream := goodIn_r _ [6, 7, 8, 9, 5, 10, 11, 12, 13, 14, 15, 16, 17, 18, 19, 20, 21, 22, 23, 24, 25, 26, 27, 28, 29, 30, 31, 32, 33, 34, 35, 36, 37, 38, 39, 40, 41, 42, 43, 44, 45, 46, 47, 48, 49, 50, 51, 52] (by decide +kernel) (by decide +kernel)
set_option maxRecDepth 20000 in
theorem gX8_deliveredPackets_X8_isStream : GoodIn wsX8_deliveredPackets (wsV RX8 175 RX8 yX8_isStream wsX8_isStream) := goodIn_app (goodIn_of _ (by decide +kernel)) ggX8_deliveredPackets_X8_isStream
theorem dX8_deliveredPackets_0 : decode cX8_deliveredPackets 0 = .ok (.aload_n 0, 1) := by decide +kernel
theorem dX8_deliveredPackets_1 : decode cX8_deliveredPackets 1 = .ok (.iload_n 1, 1) := by decide +kernel
theorem dX8_deliveredPackets_2 : decode cX8_deliveredPackets 2 = .ok (.invokevirtual 175, 3) := by decide +kernel
theorem dX8_deliveredPackets_5 : decode cX8_deliveredPackets 5 = .ok (.ifCond .eq 12, 3) := by decide +kernel
theorem dX8_deliveredPackets_8 : decode cX8_deliveredPackets 8 = .ok (.aload_n 0, 1) := by decide +kernel
theorem dX8_deliveredPackets_9 : decode cX8_deliveredPackets 9 = .ok (.getfield 72, 3) := by decide +kernel
theorem dX8_deliveredPackets_12 : decode cX8_deliveredPackets 12 = .ok (.iload_n 1, 1) := by decide +kernel
theorem dX8_deliveredPackets_13 : decode cX8_deliveredPackets 13 = .ok (.iaload, 1) := by decide +kernel
theorem dX8_deliveredPackets_14 : decode cX8_deliveredPackets 14 = .ok (.goto 6, 3) := by decide +kernel
theorem dX8_deliveredPackets_17 : decode cX8_deliveredPackets 17 = .ok (.sipush (-1001), 3) := by decide +kernel
theorem dX8_deliveredPackets_20 : decode cX8_deliveredPackets 20 = .ok (.ireturn, 1) := by decide +kernel
set_option maxRecDepth 20000 in
theorem ggX8_lostPackets_X8_isStream : GoodIn wsX8_lostPackets wsX8_isStream := goodIn_r _ [6, 7, 8, 9, 5, 10, 11, 12, 13, 14, 15, 16, 17, 18, 19, 20, 21, 22, 23, 24, 25, 26, 27, 28, 29, 30, 31, 32, 33, 34, 35, 36, 37, 38, 39, 40, 41, 42, 43, 44, 45, 46, 47, 48, 49, 50, 51, 52] (by decide +kernel) (by decide +kernel)
set_option maxRecDepth 20000 in
theorem gX8_lostPackets_X8_isStream : GoodIn wsX8_lostPackets (wsV RX8 175 RX8 yX8_isStream wsX8_isStream) := goodIn_app (goodIn_of _ (by decide +kernel)) ggX8_lostPackets_X8_isStream
theorem dX8_lostPackets_0 : decode cX8_lostPackets 0 = .ok (.aload_n 0, 1) := by decide +kernel
theorem dX8_lostPackets_1 : decode cX8_lostPackets 1 = .ok (.iload_n 1, 1) := by decide +kernel
theorem dX8_lostPackets_2 : decode cX8_lostPackets 2 = .ok (.invokevirtual 175, 3) := by decide +kernel
theorem dX8_lostPackets_5 : decode cX8_lostPackets 5 = .ok (.ifCond .eq 12, 3) := by decide +kernel
theorem dX8_lostPackets_8 : decode cX8_lostPackets 8 = .ok (.aload_n 0, 1) := by decide +kernel
theorem dX8_lostPackets_9 : decode cX8_lostPackets 9 = .ok (.getfield 75, 3) := by decide +kernel
theorem dX8_lostPackets_12 : decode cX8_lostPackets 12 = .ok (.iload_n 1, 1) := by decide +kernel
theorem dX8_lostPackets_13 : decode cX8_lostPackets 13 = .ok (.iaload, 1) := by decide +kernel
theorem dX8_lostPackets_14 : decode cX8_lostPackets 14 = .ok (.goto 6, 3) := by decide +kernel
theorem dX8_lostPackets_17 : decode cX8_lostPackets 17 = .ok (.sipush (-1001), 3) := by decide +kernel
theorem dX8_lostPackets_20 : decode cX8_lostPackets 20 = .ok (.ireturn, 1) := by decide +kernel
theorem dX8_generate_0 : decode cX8_generate 0 = .ok (.iconst 0, 1) := by decide +kernel
theorem dX8_generate_1 : decode cX8_generate 1 = .ok (.istore_n 1, 1) := by decide +kernel
theorem dX8_generate_2 : decode cX8_generate 2 = .ok (.iload_n 1, 1) := by decide +kernel
theorem dX8_generate_3 : decode cX8_generate 3 = .ok (.aload_n 0, 1) := by decide +kernel
theorem dX8_generate_4 : decode cX8_generate 4 = .ok (.getfield 141, 3) := by decide +kernel
theorem dX8_generate_7 : decode cX8_generate 7 = .ok (.if_icmp .ge 95, 3) := by decide +kernel
theorem dX8_generate_10 : decode cX8_generate 10 = .ok (.aload_n 0, 1) := by decide +kernel
theorem dX8_generate_11 : decode cX8_generate 11 = .ok (.getfield 138, 3) := by decide +kernel
theorem dX8_generate_14 : decode cX8_generate 14 = .ok (.aload_n 0, 1) := by decide +kernel
theorem dX8_generate_15 : decode cX8_generate 15 = .ok (.getfield 63, 3) := by decide +kernel
theorem dX8_generate_18 : decode cX8_generate 18 = .ok (.iload_n 1, 1) := by decide +kernel
theorem dX8_generate_19 : decode cX8_generate 19 = .ok (.iaload, 1) := by decide +kernel
theorem dX8_generate_20 : decode cX8_generate 20 = .ok (.if_icmp .lt 76, 3) := by decide +kernel
theorem dX8_generate_23 : decode cX8_generate 23 = .ok (.aload_n 0, 1) := by decide +kernel
theorem dX8_generate_24 : decode cX8_generate 24 = .ok (.getfield 138, 3) := by decide +kernel
theorem dX8_generate_27 : decode cX8_generate 27 = .ok (.aload_n 0, 1) := by decide +kernel
theorem dX8_generate_28 : decode cX8_generate 28 = .ok (.getfield 63, 3) := by decide +kernel
theorem dX8_generate_31 : decode cX8_generate 31 = .ok (.iload_n 1, 1) := by decide +kernel
theorem dX8_generate_32 : decode cX8_generate 32 = .ok (.iaload, 1) := by decide +kernel
theorem dX8_generate_33 : decode cX8_generate 33 = .ok (.isub, 1) := by decide +kernel
theorem dX8_generate_34 : decode cX8_generate 34 = .ok (.aload_n 0, 1) := by decide +kernel
theorem dX8_generate_35 : decode cX8_generate 35 = .ok (.getfield 60, 3) := by decide +kernel
theorem dX8_generate_38 : decode cX8_generate 38 = .ok (.iload_n 1, 1) := by decide +kernel
theorem dX8_generate_39 : decode cX8_generate 39 = .ok (.iaload, 1) := by decide +kernel
theorem dX8_generate_40 : decode cX8_generate 40 = .ok (.irem, 1) := by decide +kernel
theorem dX8_generate_41 : decode cX8_generate 41 = .ok (.ifCond .ne 55, 3) := by decide +kernel
theorem dX8_generate_44 : decode cX8_generate 44 = .ok (.aload_n 0, 1) := by decide +kernel
theorem dX8_generate_45 : decode cX8_generate 45 = .ok (.getfield 66, 3) := by decide +kernel
theorem dX8_generate_48 : decode cX8_generate 48 = .ok (.iload_n 1, 1) := by decide +kernel
theorem dX8_generate_49 : decode cX8_generate 49 = .ok (.iaload, 1) := by decide +kernel
theorem dX8_generate_50 : decode cX8_generate 50 = .ok (.iconst 4, 1) := by decide +kernel
theorem dX8_generate_51 : decode cX8_generate 51 = .ok (.if_icmp .ne 16, 3) := by decide +kernel
theorem dX8_generate_54 : decode cX8_generate 54 = .ok (.aload_n 0, 1) := by decide +kernel
theorem dX8_generate_55 : decode cX8_generate 55 = .ok (.getfield 75, 3) := by decide +kernel
theorem dX8_generate_58 : decode cX8_generate 58 = .ok (.iload_n 1, 1) := by decide +kernel
theorem dX8_generate_59 : decode cX8_generate 59 = .ok (.dup2, 1) := by decide +kernel
theorem dX8_generate_60 : decode cX8_generate 60 = .ok (.iaload, 1) := by decide +kernel
theorem dX8_generate_61 : decode cX8_generate 61 = .ok (.iconst 1, 1) := by decide +kernel
theorem dX8_generate_62 : decode cX8_generate 62 = .ok (.iadd, 1) := by decide +kernel
theorem dX8_generate_63 : decode cX8_generate 63 = .ok (.iastore, 1) := by decide +kernel
theorem dX8_generate_64 : decode cX8_generate 64 = .ok (.goto 32, 3) := by decide +kernel
theorem dX8_generate_67 : decode cX8_generate 67 = .ok (.aload_n 0, 1) := by decide +kernel
theorem dX8_generate_68 : decode cX8_generate 68 = .ok (.getfield 69, 3) := by decide +kernel
theorem dX8_generate_71 : decode cX8_generate 71 = .ok (.iconst 4, 1) := by decide +kernel
theorem dX8_generate_72 : decode cX8_generate 72 = .ok (.iload_n 1, 1) := by decide +kernel
theorem dX8_generate_73 : decode cX8_generate 73 = .ok (.imul, 1) := by decide +kernel
theorem dX8_generate_74 : decode cX8_generate 74 = .ok (.aload_n 0, 1) := by decide +kernel
theorem dX8_generate_75 : decode cX8_generate 75 = .ok (.getfield 66, 3) := by decide +kernel
theorem dX8_generate_78 : decode cX8_generate 78 = .ok (.iload_n 1, 1) := by decide +kernel
theorem dX8_generate_79 : decode cX8_generate 79 = .ok (.iaload, 1) := by decide +kernel
theorem dX8_generate_80 : decode cX8_generate 80 = .ok (.iadd, 1) := by decide +kernel
theorem dX8_generate_81 : decode cX8_generate 81 = .ok (.aload_n 0, 1) := by decide +kernel
theorem dX8_generate_82 : decode cX8_generate 82 = .ok (.getfield 138, 3) := by decide +kernel
theorem dX8_generate_85 : decode cX8_generate 85 = .ok (.iastore, 1) := by decide +kernel
theorem dX8_generate_86 : decode cX8_generate 86 = .ok (.aload_n 0, 1) := by decide +kernel
theorem dX8_generate_87 : decode cX8_generate 87 = .ok (.getfield 66, 3) := by decide +kernel
theorem dX8_generate_90 : decode cX8_generate 90 = .ok (.iload_n 1, 1) := by decide +kernel
theorem dX8_generate_91 : decode cX8_generate 91 = .ok (.dup2, 1) := by decide +kernel
theorem dX8_generate_92 : decode cX8_generate 92 = .ok (.iaload, 1) := by decide +kernel
theorem dX8_generate_93 : decode cX8_generate 93 = .ok (.iconst 1, 1) := by decide +kernel
theorem dX8_generate_94 : decode cX8_generate 94 = .ok (.iadd, 1) := by decide +kernel
theorem dX8_generate_95 : decode cX8_generate 95 = .ok (.iastore, 1) := by decide +kernel
theorem dX8_generate_96 : decode cX8_generate 96 = .ok (.iinc 1 1, 3) := by decide +kernel
theorem dX8_generate_99 : decode cX8_generate 99 = .ok (.goto (-97), 3) := by decide +kernel
theorem dX8_generate_102 : decode cX8_generate 102 = .ok (.return_, 1) := by decide +kernel
theorem dX8_isScheduled_0 : decode cX8_isScheduled 0 = .ok (.iconst 0, 1) := by decide +kernel
theorem dX8_isScheduled_1 : decode cX8_isScheduled 1 = .ok (.istore_n 2, 1) := by decide +kernel
theorem dX8_isScheduled_2 : decode cX8_isScheduled 2 = .ok (.iconst 0, 1) := by decide +kernel
theorem dX8_isScheduled_3 : decode cX8_isScheduled 3 = .ok (.istore_n 3, 1) := by decide +kernel
theorem dX8_isScheduled_4 : decode cX8_isScheduled 4 = .ok (.iload_n 3, 1) := by decide +kernel
theorem dX8_isScheduled_5 : decode cX8_isScheduled 5 = .ok (.aload_n 0, 1) := by decide +kernel
theorem dX8_isScheduled_6 : decode cX8_isScheduled 6 = .ok (.getfield 144, 3) := by decide +kernel
theorem dX8_isScheduled_9 : decode cX8_isScheduled 9 = .ok (.if_icmp .ge 29, 3) := by decide +kernel
theorem dX8_isScheduled_12 : decode cX8_isScheduled 12 = .ok (.iload_n 2, 1) := by decide +kernel
theorem dX8_isScheduled_13 : decode cX8_isScheduled 13 = .ok (.ifCond .ne 13, 3) := by decide +kernel
theorem dX8_isScheduled_16 : decode cX8_isScheduled 16 = .ok (.aload_n 0, 1) := by decide +kernel
theorem dX8_isScheduled_17 : decode cX8_isScheduled 17 = .ok (.getfield 78, 3) := by decide +kernel
theorem dX8_isScheduled_20 : decode cX8_isScheduled 20 = .ok (.iload_n 3, 1) := by decide +kernel
theorem dX8_isScheduled_21 : decode cX8_isScheduled 21 = .ok (.iaload, 1) := by decide +kernel
theorem dX8_isScheduled_22 : decode cX8_isScheduled 22 = .ok (.iload_n 1, 1) := by decide +kernel
theorem dX8_isScheduled_23 : decode cX8_isScheduled 23 = .ok (.if_icmp .ne 7, 3) := by decide +kernel
theorem dX8_isScheduled_26 : decode cX8_isScheduled 26 = .ok (.iconst 1, 1) := by decide +kernel
theorem dX8_isScheduled_27 : decode cX8_isScheduled 27 = .ok (.goto 4, 3) := by decide +kernel
theorem dX8_isScheduled_30 : decode cX8_isScheduled 30 = .ok (.iconst 0, 1) := by decide +kernel
theorem dX8_isScheduled_31 : decode cX8_isScheduled 31 = .ok (.istore_n 2, 1) := by decide +kernel
theorem dX8_isScheduled_32 : decode cX8_isScheduled 32 = .ok (.iinc 3 1, 3) := by decide +kernel
theorem dX8_isScheduled_35 : decode cX8_isScheduled 35 = .ok (.goto (-31), 3) := by decide +kernel
theorem dX8_isScheduled_38 : decode cX8_isScheduled 38 = .ok (.iload_n 2, 1) := by decide +kernel
theorem dX8_isScheduled_39 : decode cX8_isScheduled 39 = .ok (.ireturn, 1) := by decide +kernel
set_option maxRecDepth 20000 in
theorem ggX8_buildSchedule_X8_isScheduled : GoodIn wsX8_buildSchedule wsX8_isScheduled := goodIn_r _ [11, 1, 6, 12, 13, 14, 15, 16, 17, 18, 19, 20, 21, 22, 23, 24, 25, 26, 27, 28, 29, 30, 31, 32, 33, 34, 35, 36, 37, 38, 39, 40, 41, 42, 43, 44, 45, 46, 47, 48, 49, 50, 51, 52, 53] (by decide +kernel) (by decide +kernel)
set_option maxRecDepth 20000 in
theorem gX8_buildSchedule_X8_isScheduled : GoodIn wsX8_buildSchedule (wsV RX8 178 RX8 yX8_isScheduled wsX8_isScheduled) := goodIn_app (goodIn_of _ (by decide +kernel)) ggX8_buildSchedule_X8_isScheduled
theorem dX8_buildSchedule_0 : decode cX8_buildSchedule 0 = .ok (.aload_n 0, 1) := by decide +kernel
theorem dX8_buildSchedule_1 : decode cX8_buildSchedule 1 = .ok (.iconst 0, 1) := by decide +kernel
theorem dX8_buildSchedule_2 : decode cX8_buildSchedule 2 = .ok (.putfield 144, 3) := by decide +kernel
theorem dX8_buildSchedule_5 : decode cX8_buildSchedule 5 = .ok (.iconst 1, 1) := by decide +kernel
theorem dX8_buildSchedule_6 : decode cX8_buildSchedule 6 = .ok (.istore_n 1, 1) := by decide +kernel
theorem dX8_buildSchedule_7 : decode cX8_buildSchedule 7 = .ok (.iload_n 1, 1) := by decide +kernel
theorem dX8_buildSchedule_8 : decode cX8_buildSchedule 8 = .ok (.ifCond .eq 129, 3) := by decide +kernel
theorem dX8_buildSchedule_11 : decode cX8_buildSchedule 11 = .ok (.aload_n 0, 1) := by decide +kernel
theorem dX8_buildSchedule_12 : decode cX8_buildSchedule 12 = .ok (.getfield 144, 3) := by decide +kernel
theorem dX8_buildSchedule_15 : decode cX8_buildSchedule 15 = .ok (.aload_n 0, 1) := by decide +kernel
theorem dX8_buildSchedule_16 : decode cX8_buildSchedule 16 = .ok (.getfield 51, 3) := by decide +kernel
theorem dX8_buildSchedule_19 : decode cX8_buildSchedule 19 = .ok (.if_icmp .ge 118, 3) := by decide +kernel
theorem dX8_buildSchedule_22 : decode cX8_buildSchedule 22 = .ok (.iconst (-1), 1) := by decide +kernel
theorem dX8_buildSchedule_23 : decode cX8_buildSchedule 23 = .ok (.istore_n 2, 1) := by decide +kernel
theorem dX8_buildSchedule_24 : decode cX8_buildSchedule 24 = .ok (.iconst 0, 1) := by decide +kernel
theorem dX8_buildSchedule_25 : decode cX8_buildSchedule 25 = .ok (.istore_n 3, 1) := by decide +kernel
theorem dX8_buildSchedule_26 : decode cX8_buildSchedule 26 = .ok (.iload_n 3, 1) := by decide +kernel
theorem dX8_buildSchedule_27 : decode cX8_buildSchedule 27 = .ok (.aload_n 0, 1) := by decide +kernel
theorem dX8_buildSchedule_28 : decode cX8_buildSchedule 28 = .ok (.getfield 141, 3) := by decide +kernel
theorem dX8_buildSchedule_31 : decode cX8_buildSchedule 31 = .ok (.if_icmp .ge 68, 3) := by decide +kernel
theorem dX8_buildSchedule_34 : decode cX8_buildSchedule 34 = .ok (.aload_n 0, 1) := by decide +kernel
theorem dX8_buildSchedule_35 : decode cX8_buildSchedule 35 = .ok (.getfield 66, 3) := by decide +kernel
theorem dX8_buildSchedule_38 : decode cX8_buildSchedule 38 = .ok (.iload_n 3, 1) := by decide +kernel
theorem dX8_buildSchedule_39 : decode cX8_buildSchedule 39 = .ok (.iaload, 1) := by decide +kernel
theorem dX8_buildSchedule_40 : decode cX8_buildSchedule 40 = .ok (.ifCond .le 15, 3) := by decide +kernel
theorem dX8_buildSchedule_43 : decode cX8_buildSchedule 43 = .ok (.aload_n 0, 1) := by decide +kernel
theorem dX8_buildSchedule_44 : decode cX8_buildSchedule 44 = .ok (.iload_n 3, 1) := by decide +kernel
theorem dX8_buildSchedule_45 : decode cX8_buildSchedule 45 = .ok (.invokevirtual 178, 3) := by decide +kernel
theorem dX8_buildSchedule_48 : decode cX8_buildSchedule 48 = .ok (.ifCond .ne 7, 3) := by decide +kernel
theorem dX8_buildSchedule_51 : decode cX8_buildSchedule 51 = .ok (.iconst 1, 1) := by decide +kernel
theorem dX8_buildSchedule_52 : decode cX8_buildSchedule 52 = .ok (.goto 4, 3) := by decide +kernel
theorem dX8_buildSchedule_55 : decode cX8_buildSchedule 55 = .ok (.iconst 0, 1) := by decide +kernel
theorem dX8_buildSchedule_56 : decode cX8_buildSchedule 56 = .ok (.istore 4, 2) := by decide +kernel
theorem dX8_buildSchedule_58 : decode cX8_buildSchedule 58 = .ok (.iload 4, 2) := by decide +kernel
theorem dX8_buildSchedule_60 : decode cX8_buildSchedule 60 = .ok (.ifCond .eq 31, 3) := by decide +kernel
theorem dX8_buildSchedule_63 : decode cX8_buildSchedule 63 = .ok (.iload_n 2, 1) := by decide +kernel
theorem dX8_buildSchedule_64 : decode cX8_buildSchedule 64 = .ok (.iconst (-1), 1) := by decide +kernel
theorem dX8_buildSchedule_65 : decode cX8_buildSchedule 65 = .ok (.if_icmp .eq 22, 3) := by decide +kernel
theorem dX8_buildSchedule_68 : decode cX8_buildSchedule 68 = .ok (.aload_n 0, 1) := by decide +kernel
theorem dX8_buildSchedule_69 : decode cX8_buildSchedule 69 = .ok (.getfield 69, 3) := by decide +kernel
theorem dX8_buildSchedule_72 : decode cX8_buildSchedule 72 = .ok (.iconst 4, 1) := by decide +kernel
theorem dX8_buildSchedule_73 : decode cX8_buildSchedule 73 = .ok (.iload_n 3, 1) := by decide +kernel
theorem dX8_buildSchedule_74 : decode cX8_buildSchedule 74 = .ok (.imul, 1) := by decide +kernel
theorem dX8_buildSchedule_75 : decode cX8_buildSchedule 75 = .ok (.iaload, 1) := by decide +kernel
theorem dX8_buildSchedule_76 : decode cX8_buildSchedule 76 = .ok (.aload_n 0, 1) := by decide +kernel
theorem dX8_buildSchedule_77 : decode cX8_buildSchedule 77 = .ok (.getfield 69, 3) := by decide +kernel
theorem dX8_buildSchedule_80 : decode cX8_buildSchedule 80 = .ok (.iconst 4, 1) := by decide +kernel
theorem dX8_buildSchedule_81 : decode cX8_buildSchedule 81 = .ok (.iload_n 2, 1) := by decide +kernel
theorem dX8_buildSchedule_82 : decode cX8_buildSchedule 82 = .ok (.imul, 1) := by decide +kernel
theorem dX8_buildSchedule_83 : decode cX8_buildSchedule 83 = .ok (.iaload, 1) := by decide +kernel
theorem dX8_buildSchedule_84 : decode cX8_buildSchedule 84 = .ok (.if_icmp .ge 7, 3) := by decide +kernel
theorem dX8_buildSchedule_87 : decode cX8_buildSchedule 87 = .ok (.iload_n 3, 1) := by decide +kernel
theorem dX8_buildSchedule_88 : decode cX8_buildSchedule 88 = .ok (.goto 4, 3) := by decide +kernel
theorem dX8_buildSchedule_91 : decode cX8_buildSchedule 91 = .ok (.iload_n 2, 1) := by decide +kernel
theorem dX8_buildSchedule_92 : decode cX8_buildSchedule 92 = .ok (.istore_n 2, 1) := by decide +kernel
theorem dX8_buildSchedule_93 : decode cX8_buildSchedule 93 = .ok (.iinc 3 1, 3) := by decide +kernel
theorem dX8_buildSchedule_96 : decode cX8_buildSchedule 96 = .ok (.goto (-70), 3) := by decide +kernel
theorem dX8_buildSchedule_99 : decode cX8_buildSchedule 99 = .ok (.iload_n 2, 1) := by decide +kernel
theorem dX8_buildSchedule_100 : decode cX8_buildSchedule 100 = .ok (.iconst (-1), 1) := by decide +kernel
theorem dX8_buildSchedule_101 : decode cX8_buildSchedule 101 = .ok (.if_icmp .eq 7, 3) := by decide +kernel
theorem dX8_buildSchedule_104 : decode cX8_buildSchedule 104 = .ok (.iconst 1, 1) := by decide +kernel
theorem dX8_buildSchedule_105 : decode cX8_buildSchedule 105 = .ok (.goto 4, 3) := by decide +kernel
theorem dX8_buildSchedule_108 : decode cX8_buildSchedule 108 = .ok (.iconst 0, 1) := by decide +kernel
theorem dX8_buildSchedule_109 : decode cX8_buildSchedule 109 = .ok (.istore_n 1, 1) := by decide +kernel
theorem dX8_buildSchedule_110 : decode cX8_buildSchedule 110 = .ok (.iload_n 1, 1) := by decide +kernel
theorem dX8_buildSchedule_111 : decode cX8_buildSchedule 111 = .ok (.ifCond .eq 23, 3) := by decide +kernel
theorem dX8_buildSchedule_114 : decode cX8_buildSchedule 114 = .ok (.aload_n 0, 1) := by decide +kernel
theorem dX8_buildSchedule_115 : decode cX8_buildSchedule 115 = .ok (.getfield 78, 3) := by decide +kernel
theorem dX8_buildSchedule_118 : decode cX8_buildSchedule 118 = .ok (.aload_n 0, 1) := by decide +kernel
theorem dX8_buildSchedule_119 : decode cX8_buildSchedule 119 = .ok (.getfield 144, 3) := by decide +kernel
theorem dX8_buildSchedule_122 : decode cX8_buildSchedule 122 = .ok (.iload_n 2, 1) := by decide +kernel
theorem dX8_buildSchedule_123 : decode cX8_buildSchedule 123 = .ok (.iastore, 1) := by decide +kernel
theorem dX8_buildSchedule_124 : decode cX8_buildSchedule 124 = .ok (.aload_n 0, 1) := by decide +kernel
theorem dX8_buildSchedule_125 : decode cX8_buildSchedule 125 = .ok (.dup, 1) := by decide +kernel
theorem dX8_buildSchedule_126 : decode cX8_buildSchedule 126 = .ok (.getfield 144, 3) := by decide +kernel
theorem dX8_buildSchedule_129 : decode cX8_buildSchedule 129 = .ok (.iconst 1, 1) := by decide +kernel
theorem dX8_buildSchedule_130 : decode cX8_buildSchedule 130 = .ok (.iadd, 1) := by decide +kernel
theorem dX8_buildSchedule_131 : decode cX8_buildSchedule 131 = .ok (.putfield 144, 3) := by decide +kernel
theorem dX8_buildSchedule_134 : decode cX8_buildSchedule 134 = .ok (.goto (-127), 3) := by decide +kernel
theorem dX8_buildSchedule_137 : decode cX8_buildSchedule 137 = .ok (.return_, 1) := by decide +kernel
theorem dX8_takePacket_0 : decode cX8_takePacket 0 = .ok (.iconst 1, 1) := by decide +kernel
