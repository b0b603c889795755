theorem dX8_runAt_9 : decode cX8_runAt 9 = .ok (.iadd, 1) := by decide +kernel
theorem dX8_runAt_10 : decode cX8_runAt 10 = .ok (.iaload, 1) := by decide +kernel
theorem dX8_runAt_11 : decode cX8_runAt 11 = .ok (.ireturn, 1) := by decide +kernel
theorem dX8_makes_0 : decode cX8_makes 0 = .ok (.aload_n 0, 1) := by decide +kernel
theorem dX8_makes_1 : decode cX8_makes 1 = .ok (.getfield 16, 3) := by decide +kernel
theorem dX8_makes_4 : decode cX8_makes 4 = .ok (.iload_n 2, 1) := by decide +kernel
theorem dX8_makes_5 : decode cX8_makes 5 = .ok (.iaload, 1) := by decide +kernel
theorem dX8_makes_6 : decode cX8_makes 6 = .ok (.istore_n 3, 1) := by decide +kernel
theorem dX8_makes_7 : decode cX8_makes 7 = .ok (.aload_n 0, 1) := by decide +kernel
theorem dX8_makes_8 : decode cX8_makes 8 = .ok (.getfield 16, 3) := by decide +kernel
theorem dX8_makes_11 : decode cX8_makes 11 = .ok (.iload_n 1, 1) := by decide +kernel
theorem dX8_makes_12 : decode cX8_makes 12 = .ok (.iaload, 1) := by decide +kernel
theorem dX8_makes_13 : decode cX8_makes 13 = .ok (.istore 4, 2) := by decide +kernel
theorem dX8_makes_15 : decode cX8_makes 15 = .ok (.iload_n 3, 1) := by decide +kernel
theorem dX8_makes_16 : decode cX8_makes 16 = .ok (.istore 5, 2) := by decide +kernel
theorem dX8_makes_18 : decode cX8_makes 18 = .ok (.iload 5, 2) := by decide +kernel
theorem dX8_makes_20 : decode cX8_makes 20 = .ok (.ifCond .lt 119, 3) := by decide +kernel
theorem dX8_makes_23 : decode cX8_makes 23 = .ok (.iload 4, 2) := by decide +kernel
theorem dX8_makes_25 : decode cX8_makes 25 = .ok (.istore 6, 2) := by decide +kernel
theorem dX8_makes_27 : decode cX8_makes 27 = .ok (.iload 6, 2) := by decide +kernel
theorem dX8_makes_29 : decode cX8_makes 29 = .ok (.ifCond .lt 104, 3) := by decide +kernel
theorem dX8_makes_32 : decode cX8_makes 32 = .ok (.iconst 0, 1) := by decide +kernel
theorem dX8_makes_33 : decode cX8_makes 33 = .ok (.istore 7, 2) := by decide +kernel
theorem dX8_makes_35 : decode cX8_makes 35 = .ok (.iload 5, 2) := by decide +kernel
theorem dX8_makes_37 : decode cX8_makes 37 = .ok (.iload_n 3, 1) := by decide +kernel
theorem dX8_makes_38 : decode cX8_makes 38 = .ok (.if_icmp .ge 74, 3) := by decide +kernel
theorem dX8_makes_41 : decode cX8_makes 41 = .ok (.iload 6, 2) := by decide +kernel
theorem dX8_makes_43 : decode cX8_makes 43 = .ok (.iload 4, 2) := by decide +kernel
theorem dX8_makes_45 : decode cX8_makes 45 = .ok (.if_icmp .ge 67, 3) := by decide +kernel
theorem dX8_makes_48 : decode cX8_makes 48 = .ok (.iload 5, 2) := by decide +kernel
theorem dX8_makes_50 : decode cX8_makes 50 = .ok (.iconst 1, 1) := by decide +kernel
theorem dX8_makes_51 : decode cX8_makes 51 = .ok (.iadd, 1) := by decide +kernel
theorem dX8_makes_52 : decode cX8_makes 52 = .ok (.iload_n 3, 1) := by decide +kernel
theorem dX8_makes_53 : decode cX8_makes 53 = .ok (.if_icmp .ge 56, 3) := by decide +kernel
theorem dX8_makes_56 : decode cX8_makes 56 = .ok (.iload 6, 2) := by decide +kernel
theorem dX8_makes_58 : decode cX8_makes 58 = .ok (.iconst 1, 1) := by decide +kernel
theorem dX8_makes_59 : decode cX8_makes 59 = .ok (.iadd, 1) := by decide +kernel
theorem dX8_makes_60 : decode cX8_makes 60 = .ok (.iload 4, 2) := by decide +kernel
theorem dX8_makes_62 : decode cX8_makes 62 = .ok (.if_icmp .ge 47, 3) := by decide +kernel
theorem dX8_makes_65 : decode cX8_makes 65 = .ok (.aload_n 0, 1) := by decide +kernel
theorem dX8_makes_66 : decode cX8_makes 66 = .ok (.iload_n 1, 1) := by decide +kernel
theorem dX8_makes_67 : decode cX8_makes 67 = .ok (.iload_n 2, 1) := by decide +kernel
theorem dX8_makes_68 : decode cX8_makes 68 = .ok (.iload 5, 2) := by decide +kernel
theorem dX8_makes_70 : decode cX8_makes 70 = .ok (.iconst 1, 1) := by decide +kernel
theorem dX8_makes_71 : decode cX8_makes 71 = .ok (.iadd, 1) := by decide +kernel
theorem dX8_makes_72 : decode cX8_makes 72 = .ok (.iload 6, 2) := by decide +kernel
theorem dX8_makes_74 : decode cX8_makes 74 = .ok (.iconst 1, 1) := by decide +kernel
theorem dX8_makes_75 : decode cX8_makes 75 = .ok (.iadd, 1) := by decide +kernel
theorem dX8_makes_76 : decode cX8_makes 76 = .ok (.invokevirtual 128, 3) := by decide +kernel
theorem dX8_makes_79 : decode cX8_makes 79 = .ok (.aload_n 0, 1) := by decide +kernel
theorem dX8_makes_80 : decode cX8_makes 80 = .ok (.iload_n 1, 1) := by decide +kernel
theorem dX8_makes_81 : decode cX8_makes 81 = .ok (.iload_n 2, 1) := by decide +kernel
theorem dX8_makes_82 : decode cX8_makes 82 = .ok (.iload 5, 2) := by decide +kernel
theorem dX8_makes_84 : decode cX8_makes 84 = .ok (.iload 6, 2) := by decide +kernel
theorem dX8_makes_86 : decode cX8_makes 86 = .ok (.invokevirtual 128, 3) := by decide +kernel
theorem dX8_makes_89 : decode cX8_makes 89 = .ok (.if_icmp .ne 20, 3) := by decide +kernel
theorem dX8_makes_92 : decode cX8_makes 92 = .ok (.iconst 1, 1) := by decide +kernel
theorem dX8_makes_93 : decode cX8_makes 93 = .ok (.aload_n 0, 1) := by decide +kernel
theorem dX8_makes_94 : decode cX8_makes 94 = .ok (.iload 5, 2) := by decide +kernel
theorem dX8_makes_96 : decode cX8_makes 96 = .ok (.iconst 1, 1) := by decide +kernel
theorem dX8_makes_97 : decode cX8_makes 97 = .ok (.iadd, 1) := by decide +kernel
theorem dX8_makes_98 : decode cX8_makes 98 = .ok (.iload 6, 2) := by decide +kernel
theorem dX8_makes_100 : decode cX8_makes 100 = .ok (.iconst 1, 1) := by decide +kernel
theorem dX8_makes_101 : decode cX8_makes 101 = .ok (.iadd, 1) := by decide +kernel
theorem dX8_makes_102 : decode cX8_makes 102 = .ok (.invokevirtual 132, 3) := by decide +kernel
theorem dX8_makes_105 : decode cX8_makes 105 = .ok (.iadd, 1) := by decide +kernel
theorem dX8_makes_106 : decode cX8_makes 106 = .ok (.goto 4, 3) := by decide +kernel
theorem dX8_makes_109 : decode cX8_makes 109 = .ok (.iconst 1, 1) := by decide +kernel
theorem dX8_makes_110 : decode cX8_makes 110 = .ok (.istore 7, 2) := by decide +kernel
theorem dX8_makes_112 : decode cX8_makes 112 = .ok (.aload_n 0, 1) := by decide +kernel
theorem dX8_makes_113 : decode cX8_makes 113 = .ok (.getfield 20, 3) := by decide +kernel
theorem dX8_makes_116 : decode cX8_makes 116 = .ok (.bipush 121, 2) := by decide +kernel
theorem dX8_makes_118 : decode cX8_makes 118 = .ok (.iload 5, 2) := by decide +kernel
theorem dX8_makes_120 : decode cX8_makes 120 = .ok (.imul, 1) := by decide +kernel
theorem dX8_makes_121 : decode cX8_makes 121 = .ok (.iload 6, 2) := by decide +kernel
theorem dX8_makes_123 : decode cX8_makes 123 = .ok (.iadd, 1) := by decide +kernel
theorem dX8_makes_124 : decode cX8_makes 124 = .ok (.iload 7, 2) := by decide +kernel
theorem dX8_makes_126 : decode cX8_makes 126 = .ok (.iastore, 1) := by decide +kernel
theorem dX8_makes_127 : decode cX8_makes 127 = .ok (.iinc 6 (-1), 3) := by decide +kernel
theorem dX8_makes_130 : decode cX8_makes 130 = .ok (.goto (-103), 3) := by decide +kernel
theorem dX8_makes_133 : decode cX8_makes 133 = .ok (.iinc 5 (-1), 3) := by decide +kernel
theorem dX8_makes_136 : decode cX8_makes 136 = .ok (.goto (-118), 3) := by decide +kernel
theorem dX8_makes_139 : decode cX8_makes 139 = .ok (.aload_n 0, 1) := by decide +kernel
theorem dX8_makes_140 : decode cX8_makes 140 = .ok (.getfield 23, 3) := by decide +kernel
theorem dX8_makes_143 : decode cX8_makes 143 = .ok (.iload_n 3, 1) := by decide +kernel
theorem dX8_makes_144 : decode cX8_makes 144 = .ok (.iconst 0, 1) := by decide +kernel
theorem dX8_makes_145 : decode cX8_makes 145 = .ok (.iastore, 1) := by decide +kernel
theorem dX8_makes_146 : decode cX8_makes 146 = .ok (.iload_n 3, 1) := by decide +kernel
theorem dX8_makes_147 : decode cX8_makes 147 = .ok (.iconst 1, 1) := by decide +kernel
theorem dX8_makes_148 : decode cX8_makes 148 = .ok (.isub, 1) := by decide +kernel
theorem dX8_makes_149 : decode cX8_makes 149 = .ok (.istore 5, 2) := by decide +kernel
theorem dX8_makes_151 : decode cX8_makes 151 = .ok (.iload 5, 2) := by decide +kernel
theorem dX8_makes_153 : decode cX8_makes 153 = .ok (.ifCond .lt 231, 3) := by decide +kernel
theorem dX8_makes_156 : decode cX8_makes 156 = .ok (.aload_n 0, 1) := by decide +kernel
theorem dX8_makes_157 : decode cX8_makes 157 = .ok (.getfield 23, 3) := by decide +kernel
theorem dX8_makes_160 : decode cX8_makes 160 = .ok (.iload 5, 2) := by decide +kernel
theorem dX8_makes_162 : decode cX8_makes 162 = .ok (.ldc 135, 2) := by decide +kernel
theorem dX8_makes_164 : decode cX8_makes 164 = .ok (.iastore, 1) := by decide +kernel
theorem dX8_makes_165 : decode cX8_makes 165 = .ok (.iconst 1, 1) := by decide +kernel
theorem dX8_makes_166 : decode cX8_makes 166 = .ok (.istore 6, 2) := by decide +kernel
theorem dX8_makes_168 : decode cX8_makes 168 = .ok (.iload 6, 2) := by decide +kernel
theorem dX8_makes_170 : decode cX8_makes 170 = .ok (.bipush 30, 2) := by decide +kernel
theorem dX8_makes_172 : decode cX8_makes 172 = .ok (.iload_n 3, 1) := by decide +kernel
theorem dX8_makes_173 : decode cX8_makes 173 = .ok (.iload 5, 2) := by decide +kernel
theorem dX8_makes_175 : decode cX8_makes 175 = .ok (.isub, 1) := by decide +kernel
theorem dX8_makes_176 : decode cX8_makes 176 = .ok (.invokestatic 111, 3) := by decide +kernel
theorem dX8_makes_179 : decode cX8_makes 179 = .ok (.if_icmp .gt 41, 3) := by decide +kernel
theorem dX8_makes_182 : decode cX8_makes 182 = .ok (.aload_n 0, 1) := by decide +kernel
theorem dX8_makes_183 : decode cX8_makes 183 = .ok (.getfield 23, 3) := by decide +kernel
theorem dX8_makes_186 : decode cX8_makes 186 = .ok (.iload 5, 2) := by decide +kernel
theorem dX8_makes_188 : decode cX8_makes 188 = .ok (.aload_n 0, 1) := by decide +kernel
theorem dX8_makes_189 : decode cX8_makes 189 = .ok (.getfield 23, 3) := by decide +kernel
theorem dX8_makes_192 : decode cX8_makes 192 = .ok (.iload 5, 2) := by decide +kernel
theorem dX8_makes_194 : decode cX8_makes 194 = .ok (.iaload, 1) := by decide +kernel
theorem dX8_makes_195 : decode cX8_makes 195 = .ok (.iconst 1, 1) := by decide +kernel
theorem dX8_makes_196 : decode cX8_makes 196 = .ok (.iload 6, 2) := by decide +kernel
theorem dX8_makes_198 : decode cX8_makes 198 = .ok (.iadd, 1) := by decide +kernel
theorem dX8_makes_199 : decode cX8_makes 199 = .ok (.aload_n 0, 1) := by decide +kernel
theorem dX8_makes_200 : decode cX8_makes 200 = .ok (.getfield 23, 3) := by decide +kernel
theorem dX8_makes_203 : decode cX8_makes 203 = .ok (.iload 5, 2) := by decide +kernel
theorem dX8_makes_205 : decode cX8_makes 205 = .ok (.iload 6, 2) := by decide +kernel
theorem dX8_makes_207 : decode cX8_makes 207 = .ok (.iadd, 1) := by decide +kernel
theorem dX8_makes_208 : decode cX8_makes 208 = .ok (.iaload, 1) := by decide +kernel
theorem dX8_makes_209 : decode cX8_makes 209 = .ok (.iadd, 1) := by decide +kernel
theorem dX8_makes_210 : decode cX8_makes 210 = .ok (.invokestatic 111, 3) := by decide +kernel
theorem dX8_makes_213 : decode cX8_makes 213 = .ok (.iastore, 1) := by decide +kernel
theorem dX8_makes_214 : decode cX8_makes 214 = .ok (.iinc 6 1, 3) := by decide +kernel
theorem dX8_makes_217 : decode cX8_makes 217 = .ok (.goto (-49), 3) := by decide +kernel
theorem dX8_makes_220 : decode cX8_makes 220 = .ok (.iconst 0, 1) := by decide +kernel
theorem dX8_makes_221 : decode cX8_makes 221 = .ok (.istore 6, 2) := by decide +kernel
theorem dX8_makes_223 : decode cX8_makes 223 = .ok (.iconst 0, 1) := by decide +kernel
theorem dX8_makes_224 : decode cX8_makes 224 = .ok (.istore 7, 2) := by decide +kernel
theorem dX8_makes_226 : decode cX8_makes 226 = .ok (.iconst 0, 1) := by decide +kernel
theorem dX8_makes_227 : decode cX8_makes 227 = .ok (.istore 8, 2) := by decide +kernel
theorem dX8_makes_229 : decode cX8_makes 229 = .ok (.iload 8, 2) := by decide +kernel
theorem dX8_makes_231 : decode cX8_makes 231 = .ok (.iload 4, 2) := by decide +kernel
theorem dX8_makes_233 : decode cX8_makes 233 = .ok (.if_icmp .ge 55, 3) := by decide +kernel
theorem dX8_makes_236 : decode cX8_makes 236 = .ok (.aload_n 0, 1) := by decide +kernel
theorem dX8_makes_237 : decode cX8_makes 237 = .ok (.iload_n 1, 1) := by decide +kernel
theorem dX8_makes_238 : decode cX8_makes 238 = .ok (.iload_n 2, 1) := by decide +kernel
theorem dX8_makes_239 : decode cX8_makes 239 = .ok (.iload 5, 2) := by decide +kernel
theorem dX8_makes_241 : decode cX8_makes 241 = .ok (.iload 8, 2) := by decide +kernel
theorem dX8_makes_243 : decode cX8_makes 243 = .ok (.invokevirtual 128, 3) := by decide +kernel
theorem dX8_makes_246 : decode cX8_makes 246 = .ok (.ifCond .ne 21, 3) := by decide +kernel
theorem dX8_makes_249 : decode cX8_makes 249 = .ok (.iload 6, 2) := by decide +kernel
theorem dX8_makes_251 : decode cX8_makes 251 = .ok (.aload_n 0, 1) := by decide +kernel
theorem dX8_makes_252 : decode cX8_makes 252 = .ok (.iload 5, 2) := by decide +kernel
theorem dX8_makes_254 : decode cX8_makes 254 = .ok (.iload 8, 2) := by decide +kernel
theorem dX8_makes_256 : decode cX8_makes 256 = .ok (.invokevirtual 132, 3) := by decide +kernel
theorem dX8_makes_259 : decode cX8_makes 259 = .ok (.invokestatic 136, 3) := by decide +kernel
theorem dX8_makes_262 : decode cX8_makes 262 = .ok (.istore 6, 2) := by decide +kernel
theorem dX8_makes_264 : decode cX8_makes 264 = .ok (.goto 18, 3) := by decide +kernel
theorem dX8_makes_267 : decode cX8_makes 267 = .ok (.iload 7, 2) := by decide +kernel
theorem dX8_makes_269 : decode cX8_makes 269 = .ok (.aload_n 0, 1) := by decide +kernel
theorem dX8_makes_270 : decode cX8_makes 270 = .ok (.iload 5, 2) := by decide +kernel
theorem dX8_makes_272 : decode cX8_makes 272 = .ok (.iload 8, 2) := by decide +kernel
theorem dX8_makes_274 : decode cX8_makes 274 = .ok (.invokevirtual 132, 3) := by decide +kernel
theorem dX8_makes_277 : decode cX8_makes 277 = .ok (.invokestatic 136, 3) := by decide +kernel
theorem dX8_makes_280 : decode cX8_makes 280 = .ok (.istore 7, 2) := by decide +kernel
theorem dX8_makes_282 : decode cX8_makes 282 = .ok (.iinc 8 1, 3) := by decide +kernel
theorem dX8_makes_285 : decode cX8_makes 285 = .ok (.goto (-56), 3) := by decide +kernel
theorem dX8_makes_288 : decode cX8_makes 288 = .ok (.iconst 1, 1) := by decide +kernel
theorem dX8_makes_289 : decode cX8_makes 289 = .ok (.istore 8, 2) := by decide +kernel
theorem dX8_makes_291 : decode cX8_makes 291 = .ok (.iload 8, 2) := by decide +kernel
theorem dX8_makes_293 : decode cX8_makes 293 = .ok (.iload 6, 2) := by decide +kernel
theorem dX8_makes_295 : decode cX8_makes 295 = .ok (.if_icmp .gt 38, 3) := by decide +kernel
theorem dX8_makes_298 : decode cX8_makes 298 = .ok (.aload_n 0, 1) := by decide +kernel
theorem dX8_makes_299 : decode cX8_makes 299 = .ok (.getfield 23, 3) := by decide +kernel
theorem dX8_makes_302 : decode cX8_makes 302 = .ok (.iload 5, 2) := by decide +kernel
theorem dX8_makes_304 : decode cX8_makes 304 = .ok (.aload_n 0, 1) := by decide +kernel
theorem dX8_makes_305 : decode cX8_makes 305 = .ok (.getfield 23, 3) := by decide +kernel
theorem dX8_makes_308 : decode cX8_makes 308 = .ok (.iload 5, 2) := by decide +kernel
theorem dX8_makes_310 : decode cX8_makes 310 = .ok (.iaload, 1) := by decide +kernel
theorem dX8_makes_311 : decode cX8_makes 311 = .ok (.iconst 4, 1) := by decide +kernel
theorem dX8_makes_312 : decode cX8_makes 312 = .ok (.aload_n 0, 1) := by decide +kernel
theorem dX8_makes_313 : decode cX8_makes 313 = .ok (.getfield 23, 3) := by decide +kernel
theorem dX8_makes_316 : decode cX8_makes 316 = .ok (.iload 5, 2) := by decide +kernel
theorem dX8_makes_318 : decode cX8_makes 318 = .ok (.iload 8, 2) := by decide +kernel
theorem dX8_makes_320 : decode cX8_makes 320 = .ok (.iadd, 1) := by decide +kernel
theorem dX8_makes_321 : decode cX8_makes 321 = .ok (.iaload, 1) := by decide +kernel
theorem dX8_makes_322 : decode cX8_makes 322 = .ok (.iadd, 1) := by decide +kernel
theorem dX8_makes_323 : decode cX8_makes 323 = .ok (.invokestatic 111, 3) := by decide +kernel
theorem dX8_makes_326 : decode cX8_makes 326 = .ok (.iastore, 1) := by decide +kernel
theorem dX8_makes_327 : decode cX8_makes 327 = .ok (.iinc 8 1, 3) := by decide +kernel
theorem dX8_makes_330 : decode cX8_makes 330 = .ok (.goto (-39), 3) := by decide +kernel
theorem dX8_makes_333 : decode cX8_makes 333 = .ok (.iconst 1, 1) := by decide +kernel
theorem dX8_makes_334 : decode cX8_makes 334 = .ok (.istore 8, 2) := by decide +kernel
theorem dX8_makes_336 : decode cX8_makes 336 = .ok (.iload 8, 2) := by decide +kernel
theorem dX8_makes_338 : decode cX8_makes 338 = .ok (.iload 7, 2) := by decide +kernel
theorem dX8_makes_340 : decode cX8_makes 340 = .ok (.if_icmp .gt 38, 3) := by decide +kernel
theorem dX8_makes_343 : decode cX8_makes 343 = .ok (.aload_n 0, 1) := by decide +kernel
theorem dX8_makes_344 : decode cX8_makes 344 = .ok (.getfield 23, 3) := by decide +kernel
theorem dX8_makes_347 : decode cX8_makes 347 = .ok (.iload 5, 2) := by decide +kernel
theorem dX8_makes_349 : decode cX8_makes 349 = .ok (.aload_n 0, 1) := by decide +kernel
theorem dX8_makes_350 : decode cX8_makes 350 = .ok (.getfield 23, 3) := by decide +kernel
theorem dX8_makes_353 : decode cX8_makes 353 = .ok (.iload 5, 2) := by decide +kernel
theorem dX8_makes_355 : decode cX8_makes 355 = .ok (.iaload, 1) := by decide +kernel
theorem dX8_makes_356 : decode cX8_makes 356 = .ok (.iconst 5, 1) := by decide +kernel
theorem dX8_makes_357 : decode cX8_makes 357 = .ok (.aload_n 0, 1) := by decide +kernel
theorem dX8_makes_358 : decode cX8_makes 358 = .ok (.getfield 23, 3) := by decide +kernel
theorem dX8_makes_361 : decode cX8_makes 361 = .ok (.iload 5, 2) := by decide +kernel
theorem dX8_makes_363 : decode cX8_makes 363 = .ok (.iload 8, 2) := by decide +kernel
theorem dX8_makes_365 : decode cX8_makes 365 = .ok (.iadd, 1) := by decide +kernel
theorem dX8_makes_366 : decode cX8_makes 366 = .ok (.iaload, 1) := by decide +kernel
theorem dX8_makes_367 : decode cX8_makes 367 = .ok (.iadd, 1) := by decide +kernel
theorem dX8_makes_368 : decode cX8_makes 368 = .ok (.invokestatic 111, 3) := by decide +kernel
theorem dX8_makes_371 : decode cX8_makes 371 = .ok (.iastore, 1) := by decide +kernel
theorem dX8_makes_372 : decode cX8_makes 372 = .ok (.iinc 8 1, 3) := by decide +kernel
theorem dX8_makes_375 : decode cX8_makes 375 = .ok (.goto (-39), 3) := by decide +kernel
theorem dX8_makes_378 : decode cX8_makes 378 = .ok (.iinc 5 (-1), 3) := by decide +kernel
theorem dX8_makes_381 : decode cX8_makes 381 = .ok (.goto (-230), 3) := by decide +kernel
theorem dX8_makes_384 : decode cX8_makes 384 = .ok (.aload_n 0, 1) := by decide +kernel
theorem dX8_makes_385 : decode cX8_makes 385 = .ok (.iconst 3, 1) := by decide +kernel
theorem dX8_makes_386 : decode cX8_makes 386 = .ok (.aload_n 0, 1) := by decide +kernel
theorem dX8_makes_387 : decode cX8_makes 387 = .ok (.getfield 23, 3) := by decide +kernel
theorem dX8_makes_390 : decode cX8_makes 390 = .ok (.iconst 0, 1) := by decide +kernel
theorem dX8_makes_391 : decode cX8_makes 391 = .ok (.iaload, 1) := by decide +kernel
theorem dX8_makes_392 : decode cX8_makes 392 = .ok (.iadd, 1) := by decide +kernel
theorem dX8_makes_393 : decode cX8_makes 393 = .ok (.putfield 139, 3) := by decide +kernel
theorem dX8_makes_396 : decode cX8_makes 396 = .ok (.aload_n 0, 1) := by decide +kernel
theorem dX8_makes_397 : decode cX8_makes 397 = .ok (.iconst 0, 1) := by decide +kernel
theorem dX8_makes_398 : decode cX8_makes 398 = .ok (.putfield 142, 3) := by decide +kernel
theorem dX8_makes_401 : decode cX8_makes 401 = .ok (.iconst 0, 1) := by decide +kernel
theorem dX8_makes_402 : decode cX8_makes 402 = .ok (.istore 5, 2) := by decide +kernel
theorem dX8_makes_404 : decode cX8_makes 404 = .ok (.iload 5, 2) := by decide +kernel
theorem dX8_makes_406 : decode cX8_makes 406 = .ok (.iload_n 3, 1) := by decide +kernel
theorem dX8_makes_407 : decode cX8_makes 407 = .ok (.if_icmp .ge 142, 3) := by decide +kernel
theorem dX8_makes_410 : decode cX8_makes 410 = .ok (.aload_n 0, 1) := by decide +kernel
theorem dX8_makes_411 : decode cX8_makes 411 = .ok (.iload_n 1, 1) := by decide +kernel
theorem dX8_makes_412 : decode cX8_makes 412 = .ok (.iload_n 2, 1) := by decide +kernel
theorem dX8_makes_413 : decode cX8_makes 413 = .ok (.iload 5, 2) := by decide +kernel
theorem dX8_makes_415 : decode cX8_makes 415 = .ok (.iconst 0, 1) := by decide +kernel
theorem dX8_makes_416 : decode cX8_makes 416 = .ok (.invokevirtual 145, 3) := by decide +kernel
theorem dX8_makes_419 : decode cX8_makes 419 = .ok (.ifCond .ne 22, 3) := by decide +kernel
theorem dX8_makes_422 : decode cX8_makes 422 = .ok (.aload_n 0, 1) := by decide +kernel
theorem dX8_makes_423 : decode cX8_makes 423 = .ok (.iload_n 1, 1) := by decide +kernel
theorem dX8_makes_424 : decode cX8_makes 424 = .ok (.iload_n 2, 1) := by decide +kernel
theorem dX8_makes_425 : decode cX8_makes 425 = .ok (.iload 5, 2) := by decide +kernel
theorem dX8_makes_427 : decode cX8_makes 427 = .ok (.iconst 1, 1) := by decide +kernel
theorem dX8_makes_428 : decode cX8_makes 428 = .ok (.invokevirtual 145, 3) := by decide +kernel
theorem dX8_makes_431 : decode cX8_makes 431 = .ok (.ifCond .ne 10, 3) := by decide +kernel
theorem dX8_makes_434 : decode cX8_makes 434 = .ok (.aload_n 0, 1) := by decide +kernel
theorem dX8_makes_435 : decode cX8_makes 435 = .ok (.iload 5, 2) := by decide +kernel
theorem dX8_makes_437 : decode cX8_makes 437 = .ok (.iload_n 3, 1) := by decide +kernel
theorem dX8_makes_438 : decode cX8_makes 438 = .ok (.invokevirtual 149, 3) := by decide +kernel
theorem dX8_makes_441 : decode cX8_makes 441 = .ok (.iconst 0, 1) := by decide +kernel
theorem dX8_makes_442 : decode cX8_makes 442 = .ok (.istore 6, 2) := by decide +kernel
theorem dX8_makes_444 : decode cX8_makes 444 = .ok (.iload 6, 2) := by decide +kernel
theorem dX8_makes_446 : decode cX8_makes 446 = .ok (.aload_n 0, 1) := by decide +kernel
theorem dX8_makes_447 : decode cX8_makes 447 = .ok (.getfield 29, 3) := by decide +kernel
theorem dX8_makes_450 : decode cX8_makes 450 = .ok (.aload_n 0, 1) := by decide +kernel
theorem dX8_makes_451 : decode cX8_makes 451 = .ok (.getfield 142, 3) := by decide +kernel
theorem dX8_makes_454 : decode cX8_makes 454 = .ok (.iaload, 1) := by decide +kernel
theorem dX8_makes_455 : decode cX8_makes 455 = .ok (.if_icmp .ge 67, 3) := by decide +kernel
theorem dX8_makes_458 : decode cX8_makes 458 = .ok (.aload_n 0, 1) := by decide +kernel
theorem dX8_makes_459 : decode cX8_makes 459 = .ok (.getfield 38, 3) := by decide +kernel
theorem dX8_makes_462 : decode cX8_makes 462 = .ok (.iload 5, 2) := by decide +kernel
theorem dX8_makes_464 : decode cX8_makes 464 = .ok (.iload 6, 2) := by decide +kernel
theorem dX8_makes_466 : decode cX8_makes 466 = .ok (.iadd, 1) := by decide +kernel
theorem dX8_makes_467 : decode cX8_makes 467 = .ok (.aload_n 0, 1) := by decide +kernel
theorem dX8_makes_468 : decode cX8_makes 468 = .ok (.getfield 26, 3) := by decide +kernel
theorem dX8_makes_471 : decode cX8_makes 471 = .ok (.aload_n 0, 1) := by decide +kernel
theorem dX8_makes_472 : decode cX8_makes 472 = .ok (.getfield 142, 3) := by decide +kernel
theorem dX8_makes_475 : decode cX8_makes 475 = .ok (.iaload, 1) := by decide +kernel
theorem dX8_makes_476 : decode cX8_makes 476 = .ok (.iconst 2, 1) := by decide +kernel
theorem dX8_makes_477 : decode cX8_makes 477 = .ok (.if_icmp .ne 7, 3) := by decide +kernel
theorem dX8_makes_480 : decode cX8_makes 480 = .ok (.iconst (-1), 1) := by decide +kernel
theorem dX8_makes_481 : decode cX8_makes 481 = .ok (.goto 15, 3) := by decide +kernel
theorem dX8_makes_484 : decode cX8_makes 484 = .ok (.aload_n 0, 1) := by decide +kernel
theorem dX8_makes_485 : decode cX8_makes 485 = .ok (.getfield 32, 3) := by decide +kernel
theorem dX8_makes_488 : decode cX8_makes 488 = .ok (.aload_n 0, 1) := by decide +kernel
theorem dX8_makes_489 : decode cX8_makes 489 = .ok (.getfield 142, 3) := by decide +kernel
theorem dX8_makes_492 : decode cX8_makes 492 = .ok (.iaload, 1) := by decide +kernel
theorem dX8_makes_493 : decode cX8_makes 493 = .ok (.iload 6, 2) := by decide +kernel
theorem dX8_makes_495 : decode cX8_makes 495 = .ok (.iadd, 1) := by decide +kernel
theorem dX8_makes_496 : decode cX8_makes 496 = .ok (.iastore, 1) := by decide +kernel
theorem dX8_makes_497 : decode cX8_makes 497 = .ok (.aload_n 0, 1) := by decide +kernel
theorem dX8_makes_498 : decode cX8_makes 498 = .ok (.getfield 41, 3) := by decide +kernel
theorem dX8_makes_501 : decode cX8_makes 501 = .ok (.iload 5, 2) := by decide +kernel
theorem dX8_makes_503 : decode cX8_makes 503 = .ok (.iload 6, 2) := by decide +kernel
theorem dX8_makes_505 : decode cX8_makes 505 = .ok (.iadd, 1) := by decide +kernel
theorem dX8_makes_506 : decode cX8_makes 506 = .ok (.aload_n 0, 1) := by decide +kernel
theorem dX8_makes_507 : decode cX8_makes 507 = .ok (.getfield 35, 3) := by decide +kernel
theorem dX8_makes_510 : decode cX8_makes 510 = .ok (.aload_n 0, 1) := by decide +kernel
theorem dX8_makes_511 : decode cX8_makes 511 = .ok (.getfield 142, 3) := by decide +kernel
theorem dX8_makes_514 : decode cX8_makes 514 = .ok (.iaload, 1) := by decide +kernel
theorem dX8_makes_515 : decode cX8_makes 515 = .ok (.iastore, 1) := by decide +kernel
theorem dX8_makes_516 : decode cX8_makes 516 = .ok (.iinc 6 1, 3) := by decide +kernel
theorem dX8_makes_519 : decode cX8_makes 519 = .ok (.goto (-75), 3) := by decide +kernel
theorem dX8_makes_522 : decode cX8_makes 522 = .ok (.iload 5, 2) := by decide +kernel
theorem dX8_makes_524 : decode cX8_makes 524 = .ok (.aload_n 0, 1) := by decide +kernel
theorem dX8_makes_525 : decode cX8_makes 525 = .ok (.getfield 29, 3) := by decide +kernel
theorem dX8_makes_528 : decode cX8_makes 528 = .ok (.aload_n 0, 1) := by decide +kernel
theorem dX8_makes_529 : decode cX8_makes 529 = .ok (.getfield 142, 3) := by decide +kernel
theorem dX8_makes_532 : decode cX8_makes 532 = .ok (.iaload, 1) := by decide +kernel
theorem dX8_makes_533 : decode cX8_makes 533 = .ok (.iadd, 1) := by decide +kernel
theorem dX8_makes_534 : decode cX8_makes 534 = .ok (.istore 5, 2) := by decide +kernel
theorem dX8_makes_536 : decode cX8_makes 536 = .ok (.aload_n 0, 1) := by decide +kernel
theorem dX8_makes_537 : decode cX8_makes 537 = .ok (.dup, 1) := by decide +kernel
theorem dX8_makes_538 : decode cX8_makes 538 = .ok (.getfield 142, 3) := by decide +kernel
theorem dX8_makes_541 : decode cX8_makes 541 = .ok (.iconst 1, 1) := by decide +kernel
theorem dX8_makes_542 : decode cX8_makes 542 = .ok (.iadd, 1) := by decide +kernel
theorem dX8_makes_543 : decode cX8_makes 543 = .ok (.putfield 142, 3) := by decide +kernel
theorem dX8_makes_546 : decode cX8_makes 546 = .ok (.goto (-142), 3) := by decide +kernel
theorem dX8_makes_549 : decode cX8_makes 549 = .ok (.return_, 1) := by decide +kernel
theorem dX8_takes_0 : decode cX8_takes 0 = .ok (.iconst 0, 1) := by decide +kernel
theorem dX8_takes_1 : decode cX8_takes 1 = .ok (.istore 5, 2) := by decide +kernel
theorem dX8_takes_3 : decode cX8_takes 3 = .ok (.iconst 0, 1) := by decide +kernel
theorem dX8_takes_4 : decode cX8_takes 4 = .ok (.istore 6, 2) := by decide +kernel
theorem dX8_takes_6 : decode cX8_takes 6 = .ok (.iload 6, 2) := by decide +kernel
theorem dX8_takes_8 : decode cX8_takes 8 = .ok (.aload_n 0, 1) := by decide +kernel
theorem dX8_takes_9 : decode cX8_takes 9 = .ok (.getfield 16, 3) := by decide +kernel
theorem dX8_takes_12 : decode cX8_takes 12 = .ok (.iload_n 1, 1) := by decide +kernel
theorem dX8_takes_13 : decode cX8_takes 13 = .ok (.iaload, 1) := by decide +kernel
theorem dX8_takes_14 : decode cX8_takes 14 = .ok (.if_icmp .ge 120, 3) := by decide +kernel
theorem dX8_takes_17 : decode cX8_takes 17 = .ok (.aload_n 0, 1) := by decide +kernel
theorem dX8_takes_18 : decode cX8_takes 18 = .ok (.iload_n 1, 1) := by decide +kernel
theorem dX8_takes_19 : decode cX8_takes 19 = .ok (.iload_n 2, 1) := by decide +kernel
theorem dX8_takes_20 : decode cX8_takes 20 = .ok (.iload_n 3, 1) := by decide +kernel
theorem dX8_takes_21 : decode cX8_takes 21 = .ok (.iload 6, 2) := by decide +kernel
theorem dX8_takes_23 : decode cX8_takes 23 = .ok (.invokevirtual 128, 3) := by decide +kernel
theorem dX8_takes_26 : decode cX8_takes 26 = .ok (.istore 7, 2) := by decide +kernel
theorem dX8_takes_28 : decode cX8_takes 28 = .ok (.iload 7, 2) := by decide +kernel
theorem dX8_takes_30 : decode cX8_takes 30 = .ok (.ifCond .ne 7, 3) := by decide +kernel
theorem dX8_takes_33 : decode cX8_takes 33 = .ok (.iconst 1, 1) := by decide +kernel
theorem dX8_takes_34 : decode cX8_takes 34 = .ok (.goto 4, 3) := by decide +kernel
theorem dX8_takes_37 : decode cX8_takes 37 = .ok (.iconst 0, 1) := by decide +kernel
theorem dX8_takes_38 : decode cX8_takes 38 = .ok (.iload 4, 2) := by decide +kernel
theorem dX8_takes_40 : decode cX8_takes 40 = .ok (.ifCond .ne 7, 3) := by decide +kernel
theorem dX8_takes_43 : decode cX8_takes 43 = .ok (.iconst 1, 1) := by decide +kernel
theorem dX8_takes_44 : decode cX8_takes 44 = .ok (.goto 4, 3) := by decide +kernel
theorem dX8_takes_47 : decode cX8_takes 47 = .ok (.iconst 0, 1) := by decide +kernel
theorem dX8_takes_48 : decode cX8_takes 48 = .ok (.if_icmp .eq 6, 3) := by decide +kernel
theorem dX8_takes_51 : decode cX8_takes 51 = .ok (.goto 77, 3) := by decide +kernel
theorem dX8_takes_54 : decode cX8_takes 54 = .ok (.aload_n 0, 1) := by decide +kernel
theorem dX8_takes_55 : decode cX8_takes 55 = .ok (.iload_n 3, 1) := by decide +kernel
theorem dX8_takes_56 : decode cX8_takes 56 = .ok (.iload 6, 2) := by decide +kernel
theorem dX8_takes_58 : decode cX8_takes 58 = .ok (.invokevirtual 132, 3) := by decide +kernel
theorem dX8_takes_61 : decode cX8_takes 61 = .ok (.istore 8, 2) := by decide +kernel
theorem dX8_takes_63 : decode cX8_takes 63 = .ok (.iload 8, 2) := by decide +kernel
theorem dX8_takes_65 : decode cX8_takes 65 = .ok (.iload 5, 2) := by decide +kernel
theorem dX8_takes_67 : decode cX8_takes 67 = .ok (.if_icmp .le 61, 3) := by decide +kernel
theorem dX8_takes_70 : decode cX8_takes 70 = .ok (.iconst 4, 1) := by decide +kernel
theorem dX8_takes_71 : decode cX8_takes 71 = .ok (.iload 4, 2) := by decide +kernel
theorem dX8_takes_73 : decode cX8_takes 73 = .ok (.iadd, 1) := by decide +kernel
theorem dX8_takes_74 : decode cX8_takes 74 = .ok (.aload_n 0, 1) := by decide +kernel
theorem dX8_takes_75 : decode cX8_takes 75 = .ok (.getfield 23, 3) := by decide +kernel
theorem dX8_takes_78 : decode cX8_takes 78 = .ok (.iload_n 3, 1) := by decide +kernel
theorem dX8_takes_79 : decode cX8_takes 79 = .ok (.iload 8, 2) := by decide +kernel
theorem dX8_takes_81 : decode cX8_takes 81 = .ok (.iadd, 1) := by decide +kernel
theorem dX8_takes_82 : decode cX8_takes 82 = .ok (.iaload, 1) := by decide +kernel
theorem dX8_takes_83 : decode cX8_takes 83 = .ok (.iadd, 1) := by decide +kernel
theorem dX8_takes_84 : decode cX8_takes 84 = .ok (.aload_n 0, 1) := by decide +kernel
theorem dX8_takes_85 : decode cX8_takes 85 = .ok (.getfield 23, 3) := by decide +kernel
theorem dX8_takes_88 : decode cX8_takes 88 = .ok (.iload_n 3, 1) := by decide +kernel
theorem dX8_takes_89 : decode cX8_takes 89 = .ok (.iaload, 1) := by decide +kernel
theorem dX8_takes_90 : decode cX8_takes 90 = .ok (.if_icmp .eq 6, 3) := by decide +kernel
theorem dX8_takes_93 : decode cX8_takes 93 = .ok (.goto 29, 3) := by decide +kernel
theorem dX8_takes_96 : decode cX8_takes 96 = .ok (.iload 8, 2) := by decide +kernel
theorem dX8_takes_98 : decode cX8_takes 98 = .ok (.istore 5, 2) := by decide +kernel
theorem dX8_takes_100 : decode cX8_takes 100 = .ok (.aload_n 0, 1) := by decide +kernel
theorem dX8_takes_101 : decode cX8_takes 101 = .ok (.getfield 32, 3) := by decide +kernel
theorem dX8_takes_104 : decode cX8_takes 104 = .ok (.aload_n 0, 1) := by decide +kernel
theorem dX8_takes_105 : decode cX8_takes 105 = .ok (.getfield 142, 3) := by decide +kernel
theorem dX8_takes_108 : decode cX8_takes 108 = .ok (.iload 6, 2) := by decide +kernel
theorem dX8_takes_110 : decode cX8_takes 110 = .ok (.iastore, 1) := by decide +kernel
theorem dX8_takes_111 : decode cX8_takes 111 = .ok (.aload_n 0, 1) := by decide +kernel
theorem dX8_takes_112 : decode cX8_takes 112 = .ok (.getfield 35, 3) := by decide +kernel
theorem dX8_takes_115 : decode cX8_takes 115 = .ok (.aload_n 0, 1) := by decide +kernel
theorem dX8_takes_116 : decode cX8_takes 116 = .ok (.getfield 142, 3) := by decide +kernel
theorem dX8_takes_119 : decode cX8_takes 119 = .ok (.iload 7, 2) := by decide +kernel
theorem dX8_takes_121 : decode cX8_takes 121 = .ok (.iastore, 1) := by decide +kernel
theorem dX8_takes_122 : decode cX8_takes 122 = .ok (.iinc 8 (-1), 3) := by decide +kernel
theorem dX8_takes_125 : decode cX8_takes 125 = .ok (.goto (-62), 3) := by decide +kernel
theorem dX8_takes_128 : decode cX8_takes 128 = .ok (.iinc 6 1, 3) := by decide +kernel
theorem dX8_takes_131 : decode cX8_takes 131 = .ok (.goto (-125), 3) := by decide +kernel
theorem dX8_takes_134 : decode cX8_takes 134 = .ok (.aload_n 0, 1) := by decide +kernel
theorem dX8_takes_135 : decode cX8_takes 135 = .ok (.getfield 26, 3) := by decide +kernel
theorem dX8_takes_138 : decode cX8_takes 138 = .ok (.aload_n 0, 1) := by decide +kernel
theorem dX8_takes_139 : decode cX8_takes 139 = .ok (.getfield 142, 3) := by decide +kernel
theorem dX8_takes_142 : decode cX8_takes 142 = .ok (.iload 4, 2) := by decide +kernel
theorem dX8_takes_144 : decode cX8_takes 144 = .ok (.iastore, 1) := by decide +kernel
theorem dX8_takes_145 : decode cX8_takes 145 = .ok (.aload_n 0, 1) := by decide +kernel
theorem dX8_takes_146 : decode cX8_takes 146 = .ok (.getfield 29, 3) := by decide +kernel
theorem dX8_takes_149 : decode cX8_takes 149 = .ok (.aload_n 0, 1) := by decide +kernel
theorem dX8_takes_150 : decode cX8_takes 150 = .ok (.getfield 142, 3) := by decide +kernel
theorem dX8_takes_153 : decode cX8_takes 153 = .ok (.iload 5, 2) := by decide +kernel
theorem dX8_takes_155 : decode cX8_takes 155 = .ok (.iastore, 1) := by decide +kernel
theorem dX8_takes_156 : decode cX8_takes 156 = .ok (.iload 5, 2) := by decide +kernel
theorem dX8_takes_158 : decode cX8_takes 158 = .ok (.ifCond .le 7, 3) := by decide +kernel
theorem dX8_takes_161 : decode cX8_takes 161 = .ok (.iconst 1, 1) := by decide +kernel
theorem dX8_takes_162 : decode cX8_takes 162 = .ok (.goto 4, 3) := by decide +kernel
theorem dX8_takes_165 : decode cX8_takes 165 = .ok (.iconst 0, 1) := by decide +kernel
theorem dX8_takes_166 : decode cX8_takes 166 = .ok (.ireturn, 1) := by decide +kernel
theorem dX8_adds_0 : decode cX8_adds 0 = .ok (.bipush 30, 2) := by decide +kernel
theorem dX8_adds_2 : decode cX8_adds 2 = .ok (.iload_n 2, 1) := by decide +kernel
theorem dX8_adds_3 : decode cX8_adds 3 = .ok (.iload_n 1, 1) := by decide +kernel
theorem dX8_adds_4 : decode cX8_adds 4 = .ok (.isub, 1) := by decide +kernel
theorem dX8_adds_5 : decode cX8_adds 5 = .ok (.invokestatic 111, 3) := by decide +kernel
theorem dX8_adds_8 : decode cX8_adds 8 = .ok (.istore_n 3, 1) := by decide +kernel
theorem dX8_adds_9 : decode cX8_adds 9 = .ok (.iconst 1, 1) := by decide +kernel
theorem dX8_adds_10 : decode cX8_adds 10 = .ok (.iload_n 3, 1) := by decide +kernel
theorem dX8_adds_11 : decode cX8_adds 11 = .ok (.iadd, 1) := by decide +kernel
theorem dX8_adds_12 : decode cX8_adds 12 = .ok (.aload_n 0, 1) := by decide +kernel
theorem dX8_adds_13 : decode cX8_adds 13 = .ok (.getfield 23, 3) := by decide +kernel
theorem dX8_adds_16 : decode cX8_adds 16 = .ok (.iload_n 1, 1) := by decide +kernel
theorem dX8_adds_17 : decode cX8_adds 17 = .ok (.iload_n 3, 1) := by decide +kernel
theorem dX8_adds_18 : decode cX8_adds 18 = .ok (.iadd, 1) := by decide +kernel
theorem dX8_adds_19 : decode cX8_adds 19 = .ok (.iaload, 1) := by decide +kernel
theorem dX8_adds_20 : decode cX8_adds 20 = .ok (.iadd, 1) := by decide +kernel
theorem dX8_adds_21 : decode cX8_adds 21 = .ok (.aload_n 0, 1) := by decide +kernel
theorem dX8_adds_22 : decode cX8_adds 22 = .ok (.getfield 23, 3) := by decide +kernel
theorem dX8_adds_25 : decode cX8_adds 25 = .ok (.iload_n 1, 1) := by decide +kernel
theorem dX8_adds_26 : decode cX8_adds 26 = .ok (.iaload, 1) := by decide +kernel
theorem dX8_adds_27 : decode cX8_adds 27 = .ok (.if_icmp .eq 9, 3) := by decide +kernel
theorem dX8_adds_30 : decode cX8_adds 30 = .ok (.iinc 3 (-1), 3) := by decide +kernel
theorem dX8_adds_33 : decode cX8_adds 33 = .ok (.goto (-24), 3) := by decide +kernel
theorem dX8_adds_36 : decode cX8_adds 36 = .ok (.aload_n 0, 1) := by decide +kernel
theorem dX8_adds_37 : decode cX8_adds 37 = .ok (.getfield 26, 3) := by decide +kernel
theorem dX8_adds_40 : decode cX8_adds 40 = .ok (.aload_n 0, 1) := by decide +kernel
theorem dX8_adds_41 : decode cX8_adds 41 = .ok (.getfield 142, 3) := by decide +kernel
theorem dX8_adds_44 : decode cX8_adds 44 = .ok (.iconst 2, 1) := by decide +kernel
theorem dX8_adds_45 : decode cX8_adds 45 = .ok (.iastore, 1) := by decide +kernel
theorem dX8_adds_46 : decode cX8_adds 46 = .ok (.aload_n 0, 1) := by decide +kernel
theorem dX8_adds_47 : decode cX8_adds 47 = .ok (.getfield 29, 3) := by decide +kernel
theorem dX8_adds_50 : decode cX8_adds 50 = .ok (.aload_n 0, 1) := by decide +kernel
theorem dX8_adds_51 : decode cX8_adds 51 = .ok (.getfield 142, 3) := by decide +kernel
theorem dX8_adds_54 : decode cX8_adds 54 = .ok (.iload_n 3, 1) := by decide +kernel
theorem dX8_adds_55 : decode cX8_adds 55 = .ok (.iastore, 1) := by decide +kernel
theorem dX8_adds_56 : decode cX8_adds 56 = .ok (.aload_n 0, 1) := by decide +kernel
theorem dX8_adds_57 : decode cX8_adds 57 = .ok (.getfield 32, 3) := by decide +kernel
theorem dX8_adds_60 : decode cX8_adds 60 = .ok (.aload_n 0, 1) := by decide +kernel
theorem dX8_adds_61 : decode cX8_adds 61 = .ok (.getfield 142, 3) := by decide +kernel
theorem dX8_adds_64 : decode cX8_adds 64 = .ok (.iload_n 1, 1) := by decide +kernel
theorem dX8_adds_65 : decode cX8_adds 65 = .ok (.iastore, 1) := by decide +kernel
theorem dX8_adds_66 : decode cX8_adds 66 = .ok (.aload_n 0, 1) := by decide +kernel
theorem dX8_adds_67 : decode cX8_adds 67 = .ok (.getfield 35, 3) := by decide +kernel
theorem dX8_adds_70 : decode cX8_adds 70 = .ok (.aload_n 0, 1) := by decide +kernel
theorem dX8_adds_71 : decode cX8_adds 71 = .ok (.getfield 142, 3) := by decide +kernel
theorem dX8_adds_74 : decode cX8_adds 74 = .ok (.iconst 0, 1) := by decide +kernel
theorem dX8_adds_75 : decode cX8_adds 75 = .ok (.iastore, 1) := by decide +kernel
theorem dX8_adds_76 : decode cX8_adds 76 = .ok (.return_, 1) := by decide +kernel
theorem dX8_cost_0 : decode cX8_cost 0 = .ok (.aload_n 0, 1) := by decide +kernel
theorem dX8_cost_1 : decode cX8_cost 1 = .ok (.iload_n 1, 1) := by decide +kernel
theorem dX8_cost_2 : decode cX8_cost 2 = .ok (.invokevirtual 117, 3) := by decide +kernel
theorem dX8_cost_5 : decode cX8_cost 5 = .ok (.ifCond .eq 11, 3) := by decide +kernel
theorem dX8_cost_8 : decode cX8_cost 8 = .ok (.aload_n 0, 1) := by decide +kernel
theorem dX8_cost_9 : decode cX8_cost 9 = .ok (.iload_n 2, 1) := by decide +kernel
theorem dX8_cost_10 : decode cX8_cost 10 = .ok (.invokevirtual 117, 3) := by decide +kernel
theorem dX8_cost_13 : decode cX8_cost 13 = .ok (.ifCond .ne 5, 3) := by decide +kernel
theorem dX8_cost_16 : decode cX8_cost 16 = .ok (.iconst (-1), 1) := by decide +kernel
theorem dX8_cost_17 : decode cX8_cost 17 = .ok (.ireturn, 1) := by decide +kernel
theorem dX8_cost_18 : decode cX8_cost 18 = .ok (.aload_n 0, 1) := by decide +kernel
theorem dX8_cost_19 : decode cX8_cost 19 = .ok (.iload_n 1, 1) := by decide +kernel
theorem dX8_cost_20 : decode cX8_cost 20 = .ok (.iload_n 2, 1) := by decide +kernel
theorem dX8_cost_21 : decode cX8_cost 21 = .ok (.invokevirtual 153, 3) := by decide +kernel
theorem dX8_cost_24 : decode cX8_cost 24 = .ok (.aload_n 0, 1) := by decide +kernel
theorem dX8_cost_25 : decode cX8_cost 25 = .ok (.getfield 139, 3) := by decide +kernel
theorem dX8_cost_28 : decode cX8_cost 28 = .ok (.ireturn, 1) := by decide +kernel
theorem dX8_step_0 : decode cX8_step 0 = .ok (.aload_n 0, 1) := by decide +kernel
theorem dX8_step_1 : decode cX8_step 1 = .ok (.iload_n 1, 1) := by decide +kernel
theorem dX8_step_2 : decode cX8_step 2 = .ok (.invokevirtual 117, 3) := by decide +kernel
theorem dX8_step_5 : decode cX8_step 5 = .ok (.ifCond .eq 11, 3) := by decide +kernel
theorem dX8_step_8 : decode cX8_step 8 = .ok (.aload_n 0, 1) := by decide +kernel
theorem dX8_step_9 : decode cX8_step 9 = .ok (.iload_n 2, 1) := by decide +kernel
theorem dX8_step_10 : decode cX8_step 10 = .ok (.invokevirtual 117, 3) := by decide +kernel
theorem dX8_step_13 : decode cX8_step 13 = .ok (.ifCond .ne 5, 3) := by decide +kernel
theorem dX8_step_16 : decode cX8_step 16 = .ok (.iconst (-1), 1) := by decide +kernel
theorem dX8_step_17 : decode cX8_step 17 = .ok (.ireturn, 1) := by decide +kernel
theorem dX8_step_18 : decode cX8_step 18 = .ok (.aload_n 0, 1) := by decide +kernel
theorem dX8_step_19 : decode cX8_step 19 = .ok (.iload_n 1, 1) := by decide +kernel
theorem dX8_step_20 : decode cX8_step 20 = .ok (.iload_n 2, 1) := by decide +kernel
theorem dX8_step_21 : decode cX8_step 21 = .ok (.invokevirtual 153, 3) := by decide +kernel
theorem dX8_step_24 : decode cX8_step 24 = .ok (.iload_n 3, 1) := by decide +kernel
theorem dX8_step_25 : decode cX8_step 25 = .ok (.iconst (-1), 1) := by decide +kernel
theorem dX8_step_26 : decode cX8_step 26 = .ok (.if_icmp .ne 8, 3) := by decide +kernel
theorem dX8_step_29 : decode cX8_step 29 = .ok (.aload_n 0, 1) := by decide +kernel
theorem dX8_step_30 : decode cX8_step 30 = .ok (.getfield 142, 3) := by decide +kernel
theorem dX8_step_33 : decode cX8_step 33 = .ok (.ireturn, 1) := by decide +kernel
theorem dX8_step_34 : decode cX8_step 34 = .ok (.iload_n 3, 1) := by decide +kernel
theorem dX8_step_35 : decode cX8_step 35 = .ok (.iconst 0, 1) := by decide +kernel
theorem dX8_step_36 : decode cX8_step 36 = .ok (.aload_n 0, 1) := by decide +kernel
theorem dX8_step_37 : decode cX8_step 37 = .ok (.getfield 142, 3) := by decide +kernel
theorem dX8_step_40 : decode cX8_step 40 = .ok (.iconst 1, 1) := by decide +kernel
theorem dX8_step_41 : decode cX8_step 41 = .ok (.isub, 1) := by decide +kernel
theorem dX8_step_42 : decode cX8_step 42 = .ok (.invokestatic 99, 3) := by decide +kernel
theorem dX8_step_45 : decode cX8_step 45 = .ok (.ifCond .ne 5, 3) := by decide +kernel
theorem dX8_step_48 : decode cX8_step 48 = .ok (.iconst (-1), 1) := by decide +kernel
theorem dX8_step_49 : decode cX8_step 49 = .ok (.ireturn, 1) := by decide +kernel
theorem dX8_step_50 : decode cX8_step 50 = .ok (.iload 4, 2) := by decide +kernel
theorem dX8_step_52 : decode cX8_step 52 = .ok (.ifCond .ne 12, 3) := by decide +kernel
theorem dX8_step_55 : decode cX8_step 55 = .ok (.aload_n 0, 1) := by decide +kernel
theorem dX8_step_56 : decode cX8_step 56 = .ok (.getfield 26, 3) := by decide +kernel
theorem dX8_step_59 : decode cX8_step 59 = .ok (.iload_n 3, 1) := by decide +kernel
theorem dX8_step_60 : decode cX8_step 60 = .ok (.iaload, 1) := by decide +kernel
theorem dX8_step_61 : decode cX8_step 61 = .ok (.goto 49, 3) := by decide +kernel
theorem dX8_step_64 : decode cX8_step 64 = .ok (.iload 4, 2) := by decide +kernel
theorem dX8_step_66 : decode cX8_step 66 = .ok (.iconst 1, 1) := by decide +kernel
theorem dX8_step_67 : decode cX8_step 67 = .ok (.if_icmp .ne 12, 3) := by decide +kernel
theorem dX8_step_70 : decode cX8_step 70 = .ok (.aload_n 0, 1) := by decide +kernel
theorem dX8_step_71 : decode cX8_step 71 = .ok (.getfield 29, 3) := by decide +kernel
theorem dX8_step_74 : decode cX8_step 74 = .ok (.iload_n 3, 1) := by decide +kernel
theorem dX8_step_75 : decode cX8_step 75 = .ok (.iaload, 1) := by decide +kernel
theorem dX8_step_76 : decode cX8_step 76 = .ok (.goto 34, 3) := by decide +kernel
theorem dX8_step_79 : decode cX8_step 79 = .ok (.iload 4, 2) := by decide +kernel
theorem dX8_step_81 : decode cX8_step 81 = .ok (.iconst 2, 1) := by decide +kernel
theorem dX8_step_82 : decode cX8_step 82 = .ok (.if_icmp .ne 12, 3) := by decide +kernel
theorem dX8_step_85 : decode cX8_step 85 = .ok (.aload_n 0, 1) := by decide +kernel
theorem dX8_step_86 : decode cX8_step 86 = .ok (.getfield 32, 3) := by decide +kernel
theorem dX8_step_89 : decode cX8_step 89 = .ok (.iload_n 3, 1) := by decide +kernel
theorem dX8_step_90 : decode cX8_step 90 = .ok (.iaload, 1) := by decide +kernel
theorem dX8_step_91 : decode cX8_step 91 = .ok (.goto 19, 3) := by decide +kernel
theorem dX8_step_94 : decode cX8_step 94 = .ok (.iload 4, 2) := by decide +kernel
theorem dX8_step_96 : decode cX8_step 96 = .ok (.iconst 3, 1) := by decide +kernel
theorem dX8_step_97 : decode cX8_step 97 = .ok (.if_icmp .ne 12, 3) := by decide +kernel
theorem dX8_step_100 : decode cX8_step 100 = .ok (.aload_n 0, 1) := by decide +kernel
theorem dX8_step_101 : decode cX8_step 101 = .ok (.getfield 35, 3) := by decide +kernel
theorem dX8_step_104 : decode cX8_step 104 = .ok (.iload_n 3, 1) := by decide +kernel
theorem dX8_step_105 : decode cX8_step 105 = .ok (.iaload, 1) := by decide +kernel
theorem dX8_step_106 : decode cX8_step 106 = .ok (.goto 4, 3) := by decide +kernel
theorem dX8_step_109 : decode cX8_step 109 = .ok (.iconst (-1), 1) := by decide +kernel
theorem dX8_step_110 : decode cX8_step 110 = .ok (.ireturn, 1) := by decide +kernel
theorem dX8_melt_0 : decode cX8_melt 0 = .ok (.aload_n 0, 1) := by decide +kernel
theorem dX8_melt_1 : decode cX8_melt 1 = .ok (.iload_n 1, 1) := by decide +kernel
theorem dX8_melt_2 : decode cX8_melt 2 = .ok (.invokevirtual 117, 3) := by decide +kernel
theorem dX8_melt_5 : decode cX8_melt 5 = .ok (.ifCond .eq 19, 3) := by decide +kernel
theorem dX8_melt_8 : decode cX8_melt 8 = .ok (.aload_n 0, 1) := by decide +kernel
theorem dX8_melt_9 : decode cX8_melt 9 = .ok (.iload_n 2, 1) := by decide +kernel
theorem dX8_melt_10 : decode cX8_melt 10 = .ok (.invokevirtual 117, 3) := by decide +kernel
theorem dX8_melt_13 : decode cX8_melt 13 = .ok (.ifCond .eq 11, 3) := by decide +kernel
theorem dX8_melt_16 : decode cX8_melt 16 = .ok (.aload_n 0, 1) := by decide +kernel
theorem dX8_melt_17 : decode cX8_melt 17 = .ok (.iload_n 3, 1) := by decide +kernel
theorem dX8_melt_18 : decode cX8_melt 18 = .ok (.invokevirtual 117, 3) := by decide +kernel
theorem dX8_melt_21 : decode cX8_melt 21 = .ok (.ifCond .ne 5, 3) := by decide +kernel
theorem dX8_melt_24 : decode cX8_melt 24 = .ok (.iconst (-1), 1) := by decide +kernel
theorem dX8_melt_25 : decode cX8_melt 25 = .ok (.ireturn, 1) := by decide +kernel
theorem dX8_melt_26 : decode cX8_melt 26 = .ok (.aload_n 0, 1) := by decide +kernel
theorem dX8_melt_27 : decode cX8_melt 27 = .ok (.iload_n 1, 1) := by decide +kernel
theorem dX8_melt_28 : decode cX8_melt 28 = .ok (.iload_n 2, 1) := by decide +kernel
theorem dX8_melt_29 : decode cX8_melt 29 = .ok (.invokevirtual 153, 3) := by decide +kernel
theorem dX8_melt_32 : decode cX8_melt 32 = .ok (.iconst 0, 1) := by decide +kernel
theorem dX8_melt_33 : decode cX8_melt 33 = .ok (.istore 4, 2) := by decide +kernel
theorem dX8_melt_35 : decode cX8_melt 35 = .ok (.iload 4, 2) := by decide +kernel
theorem dX8_melt_37 : decode cX8_melt 37 = .ok (.aload_n 0, 1) := by decide +kernel
theorem dX8_melt_38 : decode cX8_melt 38 = .ok (.getfield 16, 3) := by decide +kernel
theorem dX8_melt_41 : decode cX8_melt 41 = .ok (.iload_n 2, 1) := by decide +kernel
theorem dX8_melt_42 : decode cX8_melt 42 = .ok (.iaload, 1) := by decide +kernel
theorem dX8_melt_43 : decode cX8_melt 43 = .ok (.if_icmp .ge 37, 3) := by decide +kernel
theorem dX8_melt_46 : decode cX8_melt 46 = .ok (.aload_n 0, 1) := by decide +kernel
theorem dX8_melt_47 : decode cX8_melt 47 = .ok (.getfield 44, 3) := by decide +kernel
theorem dX8_melt_50 : decode cX8_melt 50 = .ok (.iload 4, 2) := by decide +kernel
theorem dX8_melt_52 : decode cX8_melt 52 = .ok (.aload_n 0, 1) := by decide +kernel
theorem dX8_melt_53 : decode cX8_melt 53 = .ok (.getfield 38, 3) := by decide +kernel
theorem dX8_melt_56 : decode cX8_melt 56 = .ok (.iload 4, 2) := by decide +kernel
theorem dX8_melt_58 : decode cX8_melt 58 = .ok (.iaload, 1) := by decide +kernel
theorem dX8_melt_59 : decode cX8_melt 59 = .ok (.iastore, 1) := by decide +kernel
theorem dX8_melt_60 : decode cX8_melt 60 = .ok (.aload_n 0, 1) := by decide +kernel
theorem dX8_melt_61 : decode cX8_melt 61 = .ok (.getfield 47, 3) := by decide +kernel
theorem dX8_melt_64 : decode cX8_melt 64 = .ok (.iload 4, 2) := by decide +kernel
theorem dX8_melt_66 : decode cX8_melt 66 = .ok (.aload_n 0, 1) := by decide +kernel
theorem dX8_melt_67 : decode cX8_melt 67 = .ok (.getfield 41, 3) := by decide +kernel
theorem dX8_melt_70 : decode cX8_melt 70 = .ok (.iload 4, 2) := by decide +kernel
theorem dX8_melt_72 : decode cX8_melt 72 = .ok (.iaload, 1) := by decide +kernel
theorem dX8_melt_73 : decode cX8_melt 73 = .ok (.iastore, 1) := by decide +kernel
theorem dX8_melt_74 : decode cX8_melt 74 = .ok (.iinc 4 1, 3) := by decide +kernel
theorem dX8_melt_77 : decode cX8_melt 77 = .ok (.goto (-42), 3) := by decide +kernel
theorem dX8_melt_80 : decode cX8_melt 80 = .ok (.aload_n 0, 1) := by decide +kernel
theorem dX8_melt_81 : decode cX8_melt 81 = .ok (.iload_n 2, 1) := by decide +kernel
theorem dX8_melt_82 : decode cX8_melt 82 = .ok (.iload_n 3, 1) := by decide +kernel
theorem dX8_melt_83 : decode cX8_melt 83 = .ok (.invokevirtual 153, 3) := by decide +kernel
theorem dX8_melt_86 : decode cX8_melt 86 = .ok (.aload_n 0, 1) := by decide +kernel
theorem dX8_melt_87 : decode cX8_melt 87 = .ok (.getfield 16, 3) := by decide +kernel
theorem dX8_melt_90 : decode cX8_melt 90 = .ok (.iload_n 3, 1) := by decide +kernel
theorem dX8_melt_91 : decode cX8_melt 91 = .ok (.iaload, 1) := by decide +kernel
theorem dX8_melt_92 : decode cX8_melt 92 = .ok (.istore 4, 2) := by decide +kernel
theorem dX8_melt_94 : decode cX8_melt 94 = .ok (.iconst 0, 1) := by decide +kernel
theorem dX8_melt_95 : decode cX8_melt 95 = .ok (.istore 5, 2) := by decide +kernel
theorem dX8_melt_97 : decode cX8_melt 97 = .ok (.iload 5, 2) := by decide +kernel
theorem dX8_melt_99 : decode cX8_melt 99 = .ok (.iload 4, 2) := by decide +kernel
theorem dX8_melt_101 : decode cX8_melt 101 = .ok (.if_icmp .ge 83, 3) := by decide +kernel
theorem dX8_melt_104 : decode cX8_melt 104 = .ok (.aload_n 0, 1) := by decide +kernel
theorem dX8_melt_105 : decode cX8_melt 105 = .ok (.getfield 38, 3) := by decide +kernel
theorem dX8_melt_108 : decode cX8_melt 108 = .ok (.iload 5, 2) := by decide +kernel
theorem dX8_melt_110 : decode cX8_melt 110 = .ok (.iaload, 1) := by decide +kernel
theorem dX8_melt_111 : decode cX8_melt 111 = .ok (.istore 6, 2) := by decide +kernel
theorem dX8_melt_113 : decode cX8_melt 113 = .ok (.aload_n 0, 1) := by decide +kernel
theorem dX8_melt_114 : decode cX8_melt 114 = .ok (.getfield 38, 3) := by decide +kernel
theorem dX8_melt_117 : decode cX8_melt 117 = .ok (.iload 5, 2) := by decide +kernel
theorem dX8_melt_119 : decode cX8_melt 119 = .ok (.iload 6, 2) := by decide +kernel
theorem dX8_melt_121 : decode cX8_melt 121 = .ok (.iconst (-1), 1) := by decide +kernel
theorem dX8_melt_122 : decode cX8_melt 122 = .ok (.if_icmp .ne 7, 3) := by decide +kernel
theorem dX8_melt_125 : decode cX8_melt 125 = .ok (.iconst (-1), 1) := by decide +kernel
theorem dX8_melt_126 : decode cX8_melt 126 = .ok (.goto 10, 3) := by decide +kernel
theorem dX8_melt_129 : decode cX8_melt 129 = .ok (.aload_n 0, 1) := by decide +kernel
theorem dX8_melt_130 : decode cX8_melt 130 = .ok (.getfield 44, 3) := by decide +kernel
theorem dX8_melt_133 : decode cX8_melt 133 = .ok (.iload 6, 2) := by decide +kernel
theorem dX8_melt_135 : decode cX8_melt 135 = .ok (.iaload, 1) := by decide +kernel
theorem dX8_melt_136 : decode cX8_melt 136 = .ok (.iastore, 1) := by decide +kernel
theorem dX8_melt_137 : decode cX8_melt 137 = .ok (.aload_n 0, 1) := by decide +kernel
theorem dX8_melt_138 : decode cX8_melt 138 = .ok (.getfield 41, 3) := by decide +kernel
theorem dX8_melt_141 : decode cX8_melt 141 = .ok (.iload 5, 2) := by decide +kernel
theorem dX8_melt_143 : decode cX8_melt 143 = .ok (.aload_n 0, 1) := by decide +kernel
theorem dX8_melt_144 : decode cX8_melt 144 = .ok (.getfield 38, 3) := by decide +kernel
theorem dX8_melt_147 : decode cX8_melt 147 = .ok (.iload 5, 2) := by decide +kernel
theorem dX8_melt_149 : decode cX8_melt 149 = .ok (.iaload, 1) := by decide +kernel
theorem dX8_melt_150 : decode cX8_melt 150 = .ok (.iconst (-1), 1) := by decide +kernel
theorem dX8_melt_151 : decode cX8_melt 151 = .ok (.if_icmp .ne 7, 3) := by decide +kernel
theorem dX8_melt_154 : decode cX8_melt 154 = .ok (.iconst 0, 1) := by decide +kernel
theorem dX8_melt_155 : decode cX8_melt 155 = .ok (.goto 22, 3) := by decide +kernel
theorem dX8_melt_158 : decode cX8_melt 158 = .ok (.aload_n 0, 1) := by decide +kernel
theorem dX8_melt_159 : decode cX8_melt 159 = .ok (.getfield 41, 3) := by decide +kernel
theorem dX8_melt_162 : decode cX8_melt 162 = .ok (.iload 5, 2) := by decide +kernel
theorem dX8_melt_164 : decode cX8_melt 164 = .ok (.iaload, 1) := by decide +kernel
theorem dX8_melt_165 : decode cX8_melt 165 = .ok (.aload_n 0, 1) := by decide +kernel
theorem dX8_melt_166 : decode cX8_melt 166 = .ok (.getfield 47, 3) := by decide +kernel
theorem dX8_melt_169 : decode cX8_melt 169 = .ok (.iload 6, 2) := by decide +kernel
theorem dX8_melt_171 : decode cX8_melt 171 = .ok (.iaload, 1) := by decide +kernel
theorem dX8_melt_172 : decode cX8_melt 172 = .ok (.iadd, 1) := by decide +kernel
theorem dX8_melt_173 : decode cX8_melt 173 = .ok (.sipush 255, 3) := by decide +kernel
theorem dX8_melt_176 : decode cX8_melt 176 = .ok (.iand, 1) := by decide +kernel
theorem dX8_melt_177 : decode cX8_melt 177 = .ok (.iastore, 1) := by decide +kernel
theorem dX8_melt_178 : decode cX8_melt 178 = .ok (.iinc 5 1, 3) := by decide +kernel
theorem dX8_melt_181 : decode cX8_melt 181 = .ok (.goto (-84), 3) := by decide +kernel
theorem dX8_melt_184 : decode cX8_melt 184 = .ok (.aload_n 0, 1) := by decide +kernel
theorem dX8_melt_185 : decode cX8_melt 185 = .ok (.iconst 0, 1) := by decide +kernel
theorem dX8_melt_186 : decode cX8_melt 186 = .ok (.putfield 156, 3) := by decide +kernel
theorem dX8_melt_189 : decode cX8_melt 189 = .ok (.iconst 3, 1) := by decide +kernel
theorem dX8_melt_190 : decode cX8_melt 190 = .ok (.istore 5, 2) := by decide +kernel
theorem dX8_melt_192 : decode cX8_melt 192 = .ok (.iconst 0, 1) := by decide +kernel
theorem dX8_melt_193 : decode cX8_melt 193 = .ok (.istore 6, 2) := by decide +kernel
theorem dX8_melt_195 : decode cX8_melt 195 = .ok (.iload 6, 2) := by decide +kernel
theorem dX8_melt_197 : decode cX8_melt 197 = .ok (.iload 4, 2) := by decide +kernel
theorem dX8_melt_199 : decode cX8_melt 199 = .ok (.if_icmp .ge 263, 3) := by decide +kernel
theorem dX8_melt_202 : decode cX8_melt 202 = .ok (.iconst 1, 1) := by decide +kernel
theorem dX8_melt_203 : decode cX8_melt 203 = .ok (.istore 7, 2) := by decide +kernel
theorem dX8_melt_205 : decode cX8_melt 205 = .ok (.aload_n 0, 1) := by decide +kernel
theorem dX8_melt_206 : decode cX8_melt 206 = .ok (.getfield 38, 3) := by decide +kernel
theorem dX8_melt_209 : decode cX8_melt 209 = .ok (.iload 6, 2) := by decide +kernel
theorem dX8_melt_211 : decode cX8_melt 211 = .ok (.iaload, 1) := by decide +kernel
theorem dX8_melt_212 : decode cX8_melt 212 = .ok (.iconst (-1), 1) := by decide +kernel
theorem dX8_melt_213 : decode cX8_melt 213 = .ok (.if_icmp .ne 7, 3) := by decide +kernel
theorem dX8_melt_216 : decode cX8_melt 216 = .ok (.iconst 1, 1) := by decide +kernel
theorem dX8_melt_217 : decode cX8_melt 217 = .ok (.goto 4, 3) := by decide +kernel
theorem dX8_melt_220 : decode cX8_melt 220 = .ok (.iconst 0, 1) := by decide +kernel
theorem dX8_melt_221 : decode cX8_melt 221 = .ok (.istore 8, 2) := by decide +kernel
theorem dX8_melt_223 : decode cX8_melt 223 = .ok (.iload 8, 2) := by decide +kernel
theorem dX8_melt_225 : decode cX8_melt 225 = .ok (.ifCond .eq 40, 3) := by decide +kernel
theorem dX8_melt_228 : decode cX8_melt 228 = .ok (.iload 6, 2) := by decide +kernel
theorem dX8_melt_230 : decode cX8_melt 230 = .ok (.iload 7, 2) := by decide +kernel
theorem dX8_melt_232 : decode cX8_melt 232 = .ok (.iadd, 1) := by decide +kernel
theorem dX8_melt_233 : decode cX8_melt 233 = .ok (.iload 4, 2) := by decide +kernel
theorem dX8_melt_235 : decode cX8_melt 235 = .ok (.if_icmp .ge 89, 3) := by decide +kernel
theorem dX8_melt_238 : decode cX8_melt 238 = .ok (.iload 7, 2) := by decide +kernel
theorem dX8_melt_240 : decode cX8_melt 240 = .ok (.bipush 30, 2) := by decide +kernel
theorem dX8_melt_242 : decode cX8_melt 242 = .ok (.if_icmp .ge 82, 3) := by decide +kernel
theorem dX8_melt_245 : decode cX8_melt 245 = .ok (.aload_n 0, 1) := by decide +kernel
theorem dX8_melt_246 : decode cX8_melt 246 = .ok (.getfield 38, 3) := by decide +kernel
theorem dX8_melt_249 : decode cX8_melt 249 = .ok (.iload 6, 2) := by decide +kernel
theorem dX8_melt_251 : decode cX8_melt 251 = .ok (.iload 7, 2) := by decide +kernel
theorem dX8_melt_253 : decode cX8_melt 253 = .ok (.iadd, 1) := by decide +kernel
theorem dX8_melt_254 : decode cX8_melt 254 = .ok (.iaload, 1) := by decide +kernel
theorem dX8_melt_255 : decode cX8_melt 255 = .ok (.iconst (-1), 1) := by decide +kernel
theorem dX8_melt_256 : decode cX8_melt 256 = .ok (.if_icmp .ne 68, 3) := by decide +kernel
theorem dX8_melt_259 : decode cX8_melt 259 = .ok (.iinc 7 1, 3) := by decide +kernel
theorem dX8_melt_262 : decode cX8_melt 262 = .ok (.goto (-34), 3) := by decide +kernel
theorem dX8_melt_265 : decode cX8_melt 265 = .ok (.iload 6, 2) := by decide +kernel
theorem dX8_melt_267 : decode cX8_melt 267 = .ok (.iload 7, 2) := by decide +kernel
theorem dX8_melt_269 : decode cX8_melt 269 = .ok (.iadd, 1) := by decide +kernel
theorem dX8_melt_270 : decode cX8_melt 270 = .ok (.iload 4, 2) := by decide +kernel
theorem dX8_melt_272 : decode cX8_melt 272 = .ok (.if_icmp .ge 52, 3) := by decide +kernel
theorem dX8_melt_275 : decode cX8_melt 275 = .ok (.aload_n 0, 1) := by decide +kernel
theorem dX8_melt_276 : decode cX8_melt 276 = .ok (.getfield 38, 3) := by decide +kernel
theorem dX8_melt_279 : decode cX8_melt 279 = .ok (.iload 6, 2) := by decide +kernel
theorem dX8_melt_281 : decode cX8_melt 281 = .ok (.iload 7, 2) := by decide +kernel
theorem dX8_melt_283 : decode cX8_melt 283 = .ok (.iadd, 1) := by decide +kernel
theorem dX8_melt_284 : decode cX8_melt 284 = .ok (.iaload, 1) := by decide +kernel
theorem dX8_melt_285 : decode cX8_melt 285 = .ok (.aload_n 0, 1) := by decide +kernel
theorem dX8_melt_286 : decode cX8_melt 286 = .ok (.getfield 38, 3) := by decide +kernel
theorem dX8_melt_289 : decode cX8_melt 289 = .ok (.iload 6, 2) := by decide +kernel
theorem dX8_melt_291 : decode cX8_melt 291 = .ok (.iaload, 1) := by decide +kernel
theorem dX8_melt_292 : decode cX8_melt 292 = .ok (.iload 7, 2) := by decide +kernel
theorem dX8_melt_294 : decode cX8_melt 294 = .ok (.iadd, 1) := by decide +kernel
theorem dX8_melt_295 : decode cX8_melt 295 = .ok (.if_icmp .ne 29, 3) := by decide +kernel
theorem dX8_melt_298 : decode cX8_melt 298 = .ok (.aload_n 0, 1) := by decide +kernel
theorem dX8_melt_299 : decode cX8_melt 299 = .ok (.getfield 41, 3) := by decide +kernel
theorem dX8_melt_302 : decode cX8_melt 302 = .ok (.iload 6, 2) := by decide +kernel
theorem dX8_melt_304 : decode cX8_melt 304 = .ok (.iload 7, 2) := by decide +kernel
theorem dX8_melt_306 : decode cX8_melt 306 = .ok (.iadd, 1) := by decide +kernel
theorem dX8_melt_307 : decode cX8_melt 307 = .ok (.iaload, 1) := by decide +kernel
theorem dX8_melt_308 : decode cX8_melt 308 = .ok (.aload_n 0, 1) := by decide +kernel
theorem dX8_melt_309 : decode cX8_melt 309 = .ok (.getfield 41, 3) := by decide +kernel
theorem dX8_melt_312 : decode cX8_melt 312 = .ok (.iload 6, 2) := by decide +kernel
theorem dX8_melt_314 : decode cX8_melt 314 = .ok (.iaload, 1) := by decide +kernel
theorem dX8_melt_315 : decode cX8_melt 315 = .ok (.if_icmp .ne 9, 3) := by decide +kernel
theorem dX8_melt_318 : decode cX8_melt 318 = .ok (.iinc 7 1, 3) := by decide +kernel
theorem dX8_melt_321 : decode cX8_melt 321 = .ok (.goto (-56), 3) := by decide +kernel
theorem dX8_melt_324 : decode cX8_melt 324 = .ok (.aload_n 0, 1) := by decide +kernel
theorem dX8_melt_325 : decode cX8_melt 325 = .ok (.getfield 50, 3) := by decide +kernel
theorem dX8_melt_328 : decode cX8_melt 328 = .ok (.aload_n 0, 1) := by decide +kernel
theorem dX8_melt_329 : decode cX8_melt 329 = .ok (.getfield 156, 3) := by decide +kernel
theorem dX8_melt_332 : decode cX8_melt 332 = .ok (.iload 8, 2) := by decide +kernel
theorem dX8_melt_334 : decode cX8_melt 334 = .ok (.ifCond .eq 7, 3) := by decide +kernel
theorem dX8_melt_337 : decode cX8_melt 337 = .ok (.iconst 2, 1) := by decide +kernel
theorem dX8_melt_338 : decode cX8_melt 338 = .ok (.goto 18, 3) := by decide +kernel
theorem dX8_melt_341 : decode cX8_melt 341 = .ok (.aload_n 0, 1) := by decide +kernel
theorem dX8_melt_342 : decode cX8_melt 342 = .ok (.getfield 41, 3) := by decide +kernel
theorem dX8_melt_345 : decode cX8_melt 345 = .ok (.iload 6, 2) := by decide +kernel
theorem dX8_melt_347 : decode cX8_melt 347 = .ok (.iaload, 1) := by decide +kernel
theorem dX8_melt_348 : decode cX8_melt 348 = .ok (.ifCond .ne 7, 3) := by decide +kernel
theorem dX8_melt_351 : decode cX8_melt 351 = .ok (.iconst 0, 1) := by decide +kernel
theorem dX8_melt_352 : decode cX8_melt 352 = .ok (.goto 4, 3) := by decide +kernel
theorem dX8_melt_355 : decode cX8_melt 355 = .ok (.iconst 1, 1) := by decide +kernel
theorem dX8_melt_356 : decode cX8_melt 356 = .ok (.iastore, 1) := by decide +kernel
theorem dX8_melt_357 : decode cX8_melt 357 = .ok (.aload_n 0, 1) := by decide +kernel
theorem dX8_melt_358 : decode cX8_melt 358 = .ok (.getfield 53, 3) := by decide +kernel
theorem dX8_melt_361 : decode cX8_melt 361 = .ok (.aload_n 0, 1) := by decide +kernel
theorem dX8_melt_362 : decode cX8_melt 362 = .ok (.getfield 156, 3) := by decide +kernel
theorem dX8_melt_365 : decode cX8_melt 365 = .ok (.iload 7, 2) := by decide +kernel
theorem dX8_melt_367 : decode cX8_melt 367 = .ok (.iastore, 1) := by decide +kernel
theorem dX8_melt_368 : decode cX8_melt 368 = .ok (.aload_n 0, 1) := by decide +kernel
theorem dX8_melt_369 : decode cX8_melt 369 = .ok (.getfield 56, 3) := by decide +kernel
theorem dX8_melt_372 : decode cX8_melt 372 = .ok (.aload_n 0, 1) := by decide +kernel
theorem dX8_melt_373 : decode cX8_melt 373 = .ok (.getfield 156, 3) := by decide +kernel
theorem dX8_melt_376 : decode cX8_melt 376 = .ok (.iload 8, 2) := by decide +kernel
theorem dX8_melt_378 : decode cX8_melt 378 = .ok (.ifCond .eq 8, 3) := by decide +kernel
theorem dX8_melt_381 : decode cX8_melt 381 = .ok (.iload 6, 2) := by decide +kernel
theorem dX8_melt_383 : decode cX8_melt 383 = .ok (.goto 10, 3) := by decide +kernel
theorem dX8_melt_386 : decode cX8_melt 386 = .ok (.aload_n 0, 1) := by decide +kernel
theorem dX8_melt_387 : decode cX8_melt 387 = .ok (.getfield 38, 3) := by decide +kernel
theorem dX8_melt_390 : decode cX8_melt 390 = .ok (.iload 6, 2) := by decide +kernel
theorem dX8_melt_392 : decode cX8_melt 392 = .ok (.iaload, 1) := by decide +kernel
theorem dX8_melt_393 : decode cX8_melt 393 = .ok (.iastore, 1) := by decide +kernel
theorem dX8_melt_394 : decode cX8_melt 394 = .ok (.aload_n 0, 1) := by decide +kernel
theorem dX8_melt_395 : decode cX8_melt 395 = .ok (.getfield 59, 3) := by decide +kernel
theorem dX8_melt_398 : decode cX8_melt 398 = .ok (.aload_n 0, 1) := by decide +kernel
theorem dX8_melt_399 : decode cX8_melt 399 = .ok (.getfield 156, 3) := by decide +kernel
theorem dX8_melt_402 : decode cX8_melt 402 = .ok (.aload_n 0, 1) := by decide +kernel
theorem dX8_melt_403 : decode cX8_melt 403 = .ok (.getfield 41, 3) := by decide +kernel
theorem dX8_melt_406 : decode cX8_melt 406 = .ok (.iload 6, 2) := by decide +kernel
theorem dX8_melt_408 : decode cX8_melt 408 = .ok (.iaload, 1) := by decide +kernel
theorem dX8_melt_409 : decode cX8_melt 409 = .ok (.iastore, 1) := by decide +kernel
theorem dX8_melt_410 : decode cX8_melt 410 = .ok (.iload 5, 2) := by decide +kernel
theorem dX8_melt_412 : decode cX8_melt 412 = .ok (.iload 8, 2) := by decide +kernel
theorem dX8_melt_414 : decode cX8_melt 414 = .ok (.ifCond .eq 10, 3) := by decide +kernel
theorem dX8_melt_417 : decode cX8_melt 417 = .ok (.iconst 1, 1) := by decide +kernel
theorem dX8_melt_418 : decode cX8_melt 418 = .ok (.iload 7, 2) := by decide +kernel
theorem dX8_melt_420 : decode cX8_melt 420 = .ok (.iadd, 1) := by decide +kernel
theorem dX8_melt_421 : decode cX8_melt 421 = .ok (.goto 18, 3) := by decide +kernel
theorem dX8_melt_424 : decode cX8_melt 424 = .ok (.aload_n 0, 1) := by decide +kernel
theorem dX8_melt_425 : decode cX8_melt 425 = .ok (.getfield 41, 3) := by decide +kernel
theorem dX8_melt_428 : decode cX8_melt 428 = .ok (.iload 6, 2) := by decide +kernel
theorem dX8_melt_430 : decode cX8_melt 430 = .ok (.iaload, 1) := by decide +kernel
theorem dX8_melt_431 : decode cX8_melt 431 = .ok (.ifCond .ne 7, 3) := by decide +kernel
theorem dX8_melt_434 : decode cX8_melt 434 = .ok (.iconst 4, 1) := by decide +kernel
theorem dX8_melt_435 : decode cX8_melt 435 = .ok (.goto 4, 3) := by decide +kernel
theorem dX8_melt_438 : decode cX8_melt 438 = .ok (.iconst 5, 1) := by decide +kernel
theorem dX8_melt_439 : decode cX8_melt 439 = .ok (.iadd, 1) := by decide +kernel
theorem dX8_melt_440 : decode cX8_melt 440 = .ok (.istore 5, 2) := by decide +kernel
theorem dX8_melt_442 : decode cX8_melt 442 = .ok (.aload_n 0, 1) := by decide +kernel
theorem dX8_melt_443 : decode cX8_melt 443 = .ok (.dup, 1) := by decide +kernel
theorem dX8_melt_444 : decode cX8_melt 444 = .ok (.getfield 156, 3) := by decide +kernel
theorem dX8_melt_447 : decode cX8_melt 447 = .ok (.iconst 1, 1) := by decide +kernel
theorem dX8_melt_448 : decode cX8_melt 448 = .ok (.iadd, 1) := by decide +kernel
theorem dX8_melt_449 : decode cX8_melt 449 = .ok (.putfield 156, 3) := by decide +kernel
theorem dX8_melt_452 : decode cX8_melt 452 = .ok (.iload 6, 2) := by decide +kernel
theorem dX8_melt_454 : decode cX8_melt 454 = .ok (.iload 7, 2) := by decide +kernel
theorem dX8_melt_456 : decode cX8_melt 456 = .ok (.iadd, 1) := by decide +kernel
theorem dX8_melt_457 : decode cX8_melt 457 = .ok (.istore 6, 2) := by decide +kernel
theorem dX8_melt_459 : decode cX8_melt 459 = .ok (.goto (-264), 3) := by decide +kernel
theorem dX8_melt_462 : decode cX8_melt 462 = .ok (.iload 5, 2) := by decide +kernel
theorem dX8_melt_464 : decode cX8_melt 464 = .ok (.ireturn, 1) := by decide +kernel
theorem dX8_melted_0 : decode cX8_melted 0 = .ok (.aload_n 0, 1) := by decide +kernel
theorem dX8_melted_1 : decode cX8_melted 1 = .ok (.getfield 156, 3) := by decide +kernel
theorem dX8_melted_4 : decode cX8_melted 4 = .ok (.ifCond .ne 5, 3) := by decide +kernel
theorem dX8_melted_7 : decode cX8_melted 7 = .ok (.iconst (-1), 1) := by decide +kernel
theorem dX8_melted_8 : decode cX8_melted 8 = .ok (.ireturn, 1) := by decide +kernel
theorem dX8_melted_9 : decode cX8_melted 9 = .ok (.iload_n 1, 1) := by decide +kernel
theorem dX8_melted_10 : decode cX8_melted 10 = .ok (.iconst (-1), 1) := by decide +kernel
theorem dX8_melted_11 : decode cX8_melted 11 = .ok (.if_icmp .ne 8, 3) := by decide +kernel
theorem dX8_melted_14 : decode cX8_melted 14 = .ok (.aload_n 0, 1) := by decide +kernel
theorem dX8_melted_15 : decode cX8_melted 15 = .ok (.getfield 156, 3) := by decide +kernel
theorem dX8_melted_18 : decode cX8_melted 18 = .ok (.ireturn, 1) := by decide +kernel
theorem dX8_melted_19 : decode cX8_melted 19 = .ok (.iload_n 1, 1) := by decide +kernel
theorem dX8_melted_20 : decode cX8_melted 20 = .ok (.iconst 0, 1) := by decide +kernel
theorem dX8_melted_21 : decode cX8_melted 21 = .ok (.aload_n 0, 1) := by decide +kernel
theorem dX8_melted_22 : decode cX8_melted 22 = .ok (.getfield 156, 3) := by decide +kernel
theorem dX8_melted_25 : decode cX8_melted 25 = .ok (.iconst 1, 1) := by decide +kernel
theorem dX8_melted_26 : decode cX8_melted 26 = .ok (.isub, 1) := by decide +kernel
theorem dX8_melted_27 : decode cX8_melted 27 = .ok (.invokestatic 99, 3) := by decide +kernel
theorem dX8_melted_30 : decode cX8_melted 30 = .ok (.ifCond .ne 5, 3) := by decide +kernel
theorem dX8_melted_33 : decode cX8_melted 33 = .ok (.iconst (-1), 1) := by decide +kernel
theorem dX8_melted_34 : decode cX8_melted 34 = .ok (.ireturn, 1) := by decide +kernel
theorem dX8_melted_35 : decode cX8_melted 35 = .ok (.iload_n 2, 1) := by decide +kernel
theorem dX8_melted_36 : decode cX8_melted 36 = .ok (.ifCond .ne 12, 3) := by decide +kernel
theorem dX8_melted_39 : decode cX8_melted 39 = .ok (.aload_n 0, 1) := by decide +kernel
theorem dX8_melted_40 : decode cX8_melted 40 = .ok (.getfield 50, 3) := by decide +kernel
theorem dX8_melted_43 : decode cX8_melted 43 = .ok (.iload_n 1, 1) := by decide +kernel
theorem dX8_melted_44 : decode cX8_melted 44 = .ok (.iaload, 1) := by decide +kernel
theorem dX8_melted_45 : decode cX8_melted 45 = .ok (.goto 46, 3) := by decide +kernel
theorem dX8_melted_48 : decode cX8_melted 48 = .ok (.iload_n 2, 1) := by decide +kernel
theorem dX8_melted_49 : decode cX8_melted 49 = .ok (.iconst 1, 1) := by decide +kernel
theorem dX8_melted_50 : decode cX8_melted 50 = .ok (.if_icmp .ne 12, 3) := by decide +kernel
theorem dX8_melted_53 : decode cX8_melted 53 = .ok (.aload_n 0, 1) := by decide +kernel
theorem dX8_melted_54 : decode cX8_melted 54 = .ok (.getfield 53, 3) := by decide +kernel
theorem dX8_melted_57 : decode cX8_melted 57 = .ok (.iload_n 1, 1) := by decide +kernel
theorem dX8_melted_58 : decode cX8_melted 58 = .ok (.iaload, 1) := by decide +kernel
theorem dX8_melted_59 : decode cX8_melted 59 = .ok (.goto 32, 3) := by decide +kernel
theorem dX8_melted_62 : decode cX8_melted 62 = .ok (.iload_n 2, 1) := by decide +kernel
theorem dX8_melted_63 : decode cX8_melted 63 = .ok (.iconst 2, 1) := by decide +kernel
theorem dX8_melted_64 : decode cX8_melted 64 = .ok (.if_icmp .ne 12, 3) := by decide +kernel
theorem dX8_melted_67 : decode cX8_melted 67 = .ok (.aload_n 0, 1) := by decide +kernel
theorem dX8_melted_68 : decode cX8_melted 68 = .ok (.getfield 56, 3) := by decide +kernel
theorem dX8_melted_71 : decode cX8_melted 71 = .ok (.iload_n 1, 1) := by decide +kernel
theorem dX8_melted_72 : decode cX8_melted 72 = .ok (.iaload, 1) := by decide +kernel
theorem dX8_melted_73 : decode cX8_melted 73 = .ok (.goto 18, 3) := by decide +kernel
theorem dX8_melted_76 : decode cX8_melted 76 = .ok (.iload_n 2, 1) := by decide +kernel
theorem dX8_melted_77 : decode cX8_melted 77 = .ok (.iconst 3, 1) := by decide +kernel
theorem dX8_melted_78 : decode cX8_melted 78 = .ok (.if_icmp .ne 12, 3) := by decide +kernel
theorem dX8_melted_81 : decode cX8_melted 81 = .ok (.aload_n 0, 1) := by decide +kernel
theorem dX8_melted_82 : decode cX8_melted 82 = .ok (.getfield 59, 3) := by decide +kernel
theorem dX8_melted_85 : decode cX8_melted 85 = .ok (.iload_n 1, 1) := by decide +kernel
theorem dX8_melted_86 : decode cX8_melted 86 = .ok (.iaload, 1) := by decide +kernel
theorem dX8_melted_87 : decode cX8_melted 87 = .ok (.goto 4, 3) := by decide +kernel
theorem dX8_melted_90 : decode cX8_melted 90 = .ok (.iconst (-1), 1) := by decide +kernel
theorem dX8_melted_91 : decode cX8_melted 91 = .ok (.ireturn, 1) := by decide +kernel
theorem dX8_keeps_0 : decode cX8_keeps 0 = .ok (.iconst 0, 1) := by decide +kernel
theorem dX8_keeps_1 : decode cX8_keeps 1 = .ok (.istore_n 3, 1) := by decide +kernel
theorem dX8_keeps_2 : decode cX8_keeps 2 = .ok (.iload_n 3, 1) := by decide +kernel
theorem dX8_keeps_3 : decode cX8_keeps 3 = .ok (.bipush 120, 2) := by decide +kernel
theorem dX8_keeps_5 : decode cX8_keeps 5 = .ok (.if_icmp .ge 16, 3) := by decide +kernel
theorem dX8_keeps_8 : decode cX8_keeps 8 = .ok (.aload_n 0, 1) := by decide +kernel
theorem dX8_keeps_9 : decode cX8_keeps 9 = .ok (.getfield 62, 3) := by decide +kernel
theorem dX8_keeps_12 : decode cX8_keeps 12 = .ok (.iload_n 3, 1) := by decide +kernel
theorem dX8_keeps_13 : decode cX8_keeps 13 = .ok (.iconst 0, 1) := by decide +kernel
theorem dX8_keeps_14 : decode cX8_keeps 14 = .ok (.bastore, 1) := by decide +kernel
theorem dX8_keeps_15 : decode cX8_keeps 15 = .ok (.iinc 3 1, 3) := by decide +kernel
theorem dX8_keeps_18 : decode cX8_keeps 18 = .ok (.goto (-16), 3) := by decide +kernel
theorem dX8_keeps_21 : decode cX8_keeps 21 = .ok (.iconst 0, 1) := by decide +kernel
theorem dX8_keeps_22 : decode cX8_keeps 22 = .ok (.istore_n 3, 1) := by decide +kernel
theorem dX8_keeps_23 : decode cX8_keeps 23 = .ok (.iload_n 3, 1) := by decide +kernel
theorem dX8_keeps_24 : decode cX8_keeps 24 = .ok (.iload_n 1, 1) := by decide +kernel
theorem dX8_keeps_25 : decode cX8_keeps 25 = .ok (.if_icmp .ge 107, 3) := by decide +kernel
theorem dX8_keeps_28 : decode cX8_keeps 28 = .ok (.aload_n 0, 1) := by decide +kernel
theorem dX8_keeps_29 : decode cX8_keeps 29 = .ok (.getfield 38, 3) := by decide +kernel
theorem dX8_keeps_32 : decode cX8_keeps 32 = .ok (.iload_n 3, 1) := by decide +kernel
theorem dX8_keeps_33 : decode cX8_keeps 33 = .ok (.iaload, 1) := by decide +kernel
theorem dX8_keeps_34 : decode cX8_keeps 34 = .ok (.istore 4, 2) := by decide +kernel
theorem dX8_keeps_36 : decode cX8_keeps 36 = .ok (.iload 4, 2) := by decide +kernel
theorem dX8_keeps_38 : decode cX8_keeps 38 = .ok (.iconst (-1), 1) := by decide +kernel
theorem dX8_keeps_39 : decode cX8_keeps 39 = .ok (.if_icmp .ne 6, 3) := by decide +kernel
theorem dX8_keeps_42 : decode cX8_keeps 42 = .ok (.goto 84, 3) := by decide +kernel
theorem dX8_keeps_45 : decode cX8_keeps 45 = .ok (.iload_n 3, 1) := by decide +kernel
theorem dX8_keeps_46 : decode cX8_keeps 46 = .ok (.iload 4, 2) := by decide +kernel
theorem dX8_keeps_48 : decode cX8_keeps 48 = .ok (.if_icmp .ne 20, 3) := by decide +kernel
theorem dX8_keeps_51 : decode cX8_keeps 51 = .ok (.aload_n 0, 1) := by decide +kernel
theorem dX8_keeps_52 : decode cX8_keeps 52 = .ok (.getfield 41, 3) := by decide +kernel
theorem dX8_keeps_55 : decode cX8_keeps 55 = .ok (.iload_n 3, 1) := by decide +kernel
theorem dX8_keeps_56 : decode cX8_keeps 56 = .ok (.iaload, 1) := by decide +kernel
theorem dX8_keeps_57 : decode cX8_keeps 57 = .ok (.ifCond .eq 7, 3) := by decide +kernel
theorem dX8_keeps_60 : decode cX8_keeps 60 = .ok (.iconst 1, 1) := by decide +kernel
theorem dX8_keeps_61 : decode cX8_keeps 61 = .ok (.goto 36, 3) := by decide +kernel
theorem dX8_keeps_64 : decode cX8_keeps 64 = .ok (.iconst 0, 1) := by decide +kernel
theorem dX8_keeps_65 : decode cX8_keeps 65 = .ok (.goto 32, 3) := by decide +kernel
theorem dX8_keeps_68 : decode cX8_keeps 68 = .ok (.iload_n 2, 1) := by decide +kernel
theorem dX8_keeps_69 : decode cX8_keeps 69 = .ok (.ifCond .eq 17, 3) := by decide +kernel
theorem dX8_keeps_72 : decode cX8_keeps 72 = .ok (.iload_n 3, 1) := by decide +kernel
theorem dX8_keeps_73 : decode cX8_keeps 73 = .ok (.iload 4, 2) := by decide +kernel
theorem dX8_keeps_75 : decode cX8_keeps 75 = .ok (.if_icmp .ge 7, 3) := by decide +kernel
theorem dX8_keeps_78 : decode cX8_keeps 78 = .ok (.iconst 1, 1) := by decide +kernel
theorem dX8_keeps_79 : decode cX8_keeps 79 = .ok (.goto 18, 3) := by decide +kernel
theorem dX8_keeps_82 : decode cX8_keeps 82 = .ok (.iconst 0, 1) := by decide +kernel
theorem dX8_keeps_83 : decode cX8_keeps 83 = .ok (.goto 14, 3) := by decide +kernel
theorem dX8_keeps_86 : decode cX8_keeps 86 = .ok (.iload_n 3, 1) := by decide +kernel
theorem dX8_keeps_87 : decode cX8_keeps 87 = .ok (.iload 4, 2) := by decide +kernel
theorem dX8_keeps_89 : decode cX8_keeps 89 = .ok (.if_icmp .le 7, 3) := by decide +kernel
theorem dX8_keeps_92 : decode cX8_keeps 92 = .ok (.iconst 1, 1) := by decide +kernel
theorem dX8_keeps_93 : decode cX8_keeps 93 = .ok (.goto 4, 3) := by decide +kernel
theorem dX8_keeps_96 : decode cX8_keeps 96 = .ok (.iconst 0, 1) := by decide +kernel
theorem dX8_keeps_97 : decode cX8_keeps 97 = .ok (.istore 5, 2) := by decide +kernel
theorem dX8_keeps_99 : decode cX8_keeps 99 = .ok (.aload_n 0, 1) := by decide +kernel
theorem dX8_keeps_100 : decode cX8_keeps 100 = .ok (.getfield 62, 3) := by decide +kernel
theorem dX8_keeps_103 : decode cX8_keeps 103 = .ok (.iload 4, 2) := by decide +kernel
theorem dX8_keeps_105 : decode cX8_keeps 105 = .ok (.aload_n 0, 1) := by decide +kernel
theorem dX8_keeps_106 : decode cX8_keeps 106 = .ok (.getfield 62, 3) := by decide +kernel
theorem dX8_keeps_109 : decode cX8_keeps 109 = .ok (.iload 4, 2) := by decide +kernel
theorem dX8_keeps_111 : decode cX8_keeps 111 = .ok (.baload, 1) := by decide +kernel
theorem dX8_keeps_112 : decode cX8_keeps 112 = .ok (.ifCond .ne 8, 3) := by decide +kernel
theorem dX8_keeps_115 : decode cX8_keeps 115 = .ok (.iload 5, 2) := by decide +kernel
theorem dX8_keeps_117 : decode cX8_keeps 117 = .ok (.ifCond .eq 7, 3) := by decide +kernel
theorem dX8_keeps_120 : decode cX8_keeps 120 = .ok (.iconst 1, 1) := by decide +kernel
theorem dX8_keeps_121 : decode cX8_keeps 121 = .ok (.goto 4, 3) := by decide +kernel
theorem dX8_keeps_124 : decode cX8_keeps 124 = .ok (.iconst 0, 1) := by decide +kernel
theorem dX8_keeps_125 : decode cX8_keeps 125 = .ok (.bastore, 1) := by decide +kernel
theorem dX8_keeps_126 : decode cX8_keeps 126 = .ok (.iinc 3 1, 3) := by decide +kernel
theorem dX8_keeps_129 : decode cX8_keeps 129 = .ok (.goto (-106), 3) := by decide +kernel
theorem dX8_keeps_132 : decode cX8_keeps 132 = .ok (.iconst 0, 1) := by decide +kernel
theorem dX8_keeps_133 : decode cX8_keeps 133 = .ok (.istore_n 3, 1) := by decide +kernel
theorem dX8_keeps_134 : decode cX8_keeps 134 = .ok (.iconst 0, 1) := by decide +kernel
theorem dX8_keeps_135 : decode cX8_keeps 135 = .ok (.istore 4, 2) := by decide +kernel
theorem dX8_keeps_137 : decode cX8_keeps 137 = .ok (.iload 4, 2) := by decide +kernel
theorem dX8_keeps_139 : decode cX8_keeps 139 = .ok (.bipush 120, 2) := by decide +kernel
theorem dX8_keeps_141 : decode cX8_keeps 141 = .ok (.if_icmp .ge 27, 3) := by decide +kernel
theorem dX8_keeps_144 : decode cX8_keeps 144 = .ok (.iload_n 3, 1) := by decide +kernel
theorem dX8_keeps_145 : decode cX8_keeps 145 = .ok (.aload_n 0, 1) := by decide +kernel
theorem dX8_keeps_146 : decode cX8_keeps 146 = .ok (.getfield 62, 3) := by decide +kernel
theorem dX8_keeps_149 : decode cX8_keeps 149 = .ok (.iload 4, 2) := by decide +kernel
theorem dX8_keeps_151 : decode cX8_keeps 151 = .ok (.baload, 1) := by decide +kernel
theorem dX8_keeps_152 : decode cX8_keeps 152 = .ok (.ifCond .eq 7, 3) := by decide +kernel
theorem dX8_keeps_155 : decode cX8_keeps 155 = .ok (.iconst 1, 1) := by decide +kernel
theorem dX8_keeps_156 : decode cX8_keeps 156 = .ok (.goto 4, 3) := by decide +kernel
theorem dX8_keeps_159 : decode cX8_keeps 159 = .ok (.iconst 0, 1) := by decide +kernel
theorem dX8_keeps_160 : decode cX8_keeps 160 = .ok (.iadd, 1) := by decide +kernel
theorem dX8_keeps_161 : decode cX8_keeps 161 = .ok (.istore_n 3, 1) := by decide +kernel
theorem dX8_keeps_162 : decode cX8_keeps 162 = .ok (.iinc 4 1, 3) := by decide +kernel
theorem dX8_keeps_165 : decode cX8_keeps 165 = .ok (.goto (-28), 3) := by decide +kernel
theorem dX8_keeps_168 : decode cX8_keeps 168 = .ok (.iload_n 3, 1) := by decide +kernel
theorem dX8_keeps_169 : decode cX8_keeps 169 = .ok (.ireturn, 1) := by decide +kernel
theorem dX8_room_0 : decode cX8_room 0 = .ok (.aload_n 0, 1) := by decide +kernel
theorem dX8_room_1 : decode cX8_room 1 = .ok (.iload_n 1, 1) := by decide +kernel
theorem dX8_room_2 : decode cX8_room 2 = .ok (.invokevirtual 117, 3) := by decide +kernel
theorem dX8_room_5 : decode cX8_room 5 = .ok (.ifCond .eq 20, 3) := by decide +kernel
theorem dX8_room_8 : decode cX8_room 8 = .ok (.aload_n 0, 1) := by decide +kernel
theorem dX8_room_9 : decode cX8_room 9 = .ok (.iload_n 2, 1) := by decide +kernel
theorem dX8_room_10 : decode cX8_room 10 = .ok (.invokevirtual 117, 3) := by decide +kernel
theorem dX8_room_13 : decode cX8_room 13 = .ok (.ifCond .eq 12, 3) := by decide +kernel
theorem dX8_room_16 : decode cX8_room 16 = .ok (.iload_n 3, 1) := by decide +kernel
theorem dX8_room_17 : decode cX8_room 17 = .ok (.iconst 0, 1) := by decide +kernel
theorem dX8_room_18 : decode cX8_room 18 = .ok (.iconst 2, 1) := by decide +kernel
theorem dX8_room_19 : decode cX8_room 19 = .ok (.invokestatic 99, 3) := by decide +kernel
theorem dX8_room_22 : decode cX8_room 22 = .ok (.ifCond .ne 5, 3) := by decide +kernel
theorem dX8_room_25 : decode cX8_room 25 = .ok (.iconst (-1), 1) := by decide +kernel
theorem dX8_room_26 : decode cX8_room 26 = .ok (.ireturn, 1) := by decide +kernel
theorem dX8_room_27 : decode cX8_room 27 = .ok (.aload_n 0, 1) := by decide +kernel
theorem dX8_room_28 : decode cX8_room 28 = .ok (.iload_n 1, 1) := by decide +kernel
theorem dX8_room_29 : decode cX8_room 29 = .ok (.iload_n 2, 1) := by decide +kernel
theorem dX8_room_30 : decode cX8_room 30 = .ok (.invokevirtual 153, 3) := by decide +kernel
theorem dX8_room_33 : decode cX8_room 33 = .ok (.aload_n 0, 1) := by decide +kernel
theorem dX8_room_34 : decode cX8_room 34 = .ok (.aload_n 0, 1) := by decide +kernel
theorem dX8_room_35 : decode cX8_room 35 = .ok (.getfield 16, 3) := by decide +kernel
theorem dX8_room_38 : decode cX8_room 38 = .ok (.iload_n 2, 1) := by decide +kernel
theorem dX8_room_39 : decode cX8_room 39 = .ok (.iaload, 1) := by decide +kernel
theorem dX8_room_40 : decode cX8_room 40 = .ok (.iconst 0, 1) := by decide +kernel
theorem dX8_room_41 : decode cX8_room 41 = .ok (.invokevirtual 159, 3) := by decide +kernel
theorem dX8_room_44 : decode cX8_room 44 = .ok (.istore 4, 2) := by decide +kernel
theorem dX8_room_46 : decode cX8_room 46 = .ok (.aload_n 0, 1) := by decide +kernel
theorem dX8_room_47 : decode cX8_room 47 = .ok (.aload_n 0, 1) := by decide +kernel
theorem dX8_room_48 : decode cX8_room 48 = .ok (.getfield 16, 3) := by decide +kernel
theorem dX8_room_51 : decode cX8_room 51 = .ok (.iload_n 2, 1) := by decide +kernel
theorem dX8_room_52 : decode cX8_room 52 = .ok (.iaload, 1) := by decide +kernel
theorem dX8_room_53 : decode cX8_room 53 = .ok (.iconst 1, 1) := by decide +kernel
theorem dX8_room_54 : decode cX8_room 54 = .ok (.invokevirtual 159, 3) := by decide +kernel
theorem dX8_room_57 : decode cX8_room 57 = .ok (.istore 5, 2) := by decide +kernel
theorem dX8_room_59 : decode cX8_room 59 = .ok (.iload_n 3, 1) := by decide +kernel
theorem dX8_room_60 : decode cX8_room 60 = .ok (.ifCond .ne 8, 3) := by decide +kernel
theorem dX8_room_63 : decode cX8_room 63 = .ok (.iload 4, 2) := by decide +kernel
theorem dX8_room_65 : decode cX8_room 65 = .ok (.goto 20, 3) := by decide +kernel
theorem dX8_room_68 : decode cX8_room 68 = .ok (.iload_n 3, 1) := by decide +kernel
theorem dX8_room_69 : decode cX8_room 69 = .ok (.iconst 1, 1) := by decide +kernel
theorem dX8_room_70 : decode cX8_room 70 = .ok (.if_icmp .ne 8, 3) := by decide +kernel
theorem dX8_room_73 : decode cX8_room 73 = .ok (.iload 5, 2) := by decide +kernel
theorem dX8_room_75 : decode cX8_room 75 = .ok (.goto 10, 3) := by decide +kernel
theorem dX8_room_78 : decode cX8_room 78 = .ok (.iload 4, 2) := by decide +kernel
theorem dX8_room_80 : decode cX8_room 80 = .ok (.iload 5, 2) := by decide +kernel
theorem dX8_room_82 : decode cX8_room 82 = .ok (.invokestatic 111, 3) := by decide +kernel
theorem dX8_room_85 : decode cX8_room 85 = .ok (.ireturn, 1) := by decide +kernel
theorem dX8_install_0 : decode cX8_install 0 = .ok (.aload_n 0, 1) := by decide +kernel
theorem dX8_install_1 : decode cX8_install 1 = .ok (.iload_n 1, 1) := by decide +kernel
theorem dX8_install_2 : decode cX8_install 2 = .ok (.invokevirtual 117, 3) := by decide +kernel
theorem dX8_install_5 : decode cX8_install 5 = .ok (.ifCond .ne 5, 3) := by decide +kernel
theorem dX8_install_8 : decode cX8_install 8 = .ok (.iconst 0, 1) := by decide +kernel
theorem dX8_install_9 : decode cX8_install 9 = .ok (.ireturn, 1) := by decide +kernel
theorem dX8_install_10 : decode cX8_install 10 = .ok (.iconst 0, 1) := by decide +kernel
theorem dX8_install_11 : decode cX8_install 11 = .ok (.istore_n 2, 1) := by decide +kernel
theorem dX8_install_12 : decode cX8_install 12 = .ok (.iload_n 2, 1) := by decide +kernel
theorem dX8_install_13 : decode cX8_install 13 = .ok (.bipush 120, 2) := by decide +kernel
theorem dX8_install_15 : decode cX8_install 15 = .ok (.if_icmp .ge 40, 3) := by decide +kernel
theorem dX8_install_18 : decode cX8_install 18 = .ok (.aload_n 0, 1) := by decide +kernel
theorem dX8_install_19 : decode cX8_install 19 = .ok (.getfield 66, 3) := by decide +kernel
theorem dX8_install_22 : decode cX8_install 22 = .ok (.iload_n 2, 1) := by decide +kernel
theorem dX8_install_23 : decode cX8_install 23 = .ok (.iload_n 2, 1) := by decide +kernel
theorem dX8_install_24 : decode cX8_install 24 = .ok (.aload_n 0, 1) := by decide +kernel
theorem dX8_install_25 : decode cX8_install 25 = .ok (.getfield 16, 3) := by decide +kernel
theorem dX8_install_28 : decode cX8_install 28 = .ok (.iload_n 1, 1) := by decide +kernel
theorem dX8_install_29 : decode cX8_install 29 = .ok (.iaload, 1) := by decide +kernel
theorem dX8_install_30 : decode cX8_install 30 = .ok (.if_icmp .ge 17, 3) := by decide +kernel
theorem dX8_install_33 : decode cX8_install 33 = .ok (.aload_n 0, 1) := by decide +kernel
theorem dX8_install_34 : decode cX8_install 34 = .ok (.getfield 13, 3) := by decide +kernel
theorem dX8_install_37 : decode cX8_install 37 = .ok (.bipush 120, 2) := by decide +kernel
theorem dX8_install_39 : decode cX8_install 39 = .ok (.iload_n 1, 1) := by decide +kernel
theorem dX8_install_40 : decode cX8_install 40 = .ok (.imul, 1) := by decide +kernel
theorem dX8_install_41 : decode cX8_install 41 = .ok (.iload_n 2, 1) := by decide +kernel
theorem dX8_install_42 : decode cX8_install 42 = .ok (.iadd, 1) := by decide +kernel
theorem dX8_install_43 : decode cX8_install 43 = .ok (.baload, 1) := by decide +kernel
theorem dX8_install_44 : decode cX8_install 44 = .ok (.goto 4, 3) := by decide +kernel
theorem dX8_install_47 : decode cX8_install 47 = .ok (.iconst 0, 1) := by decide +kernel
theorem dX8_install_48 : decode cX8_install 48 = .ok (.bastore, 1) := by decide +kernel
theorem dX8_install_49 : decode cX8_install 49 = .ok (.iinc 2 1, 3) := by decide +kernel
theorem dX8_install_52 : decode cX8_install 52 = .ok (.goto (-40), 3) := by decide +kernel
theorem dX8_install_55 : decode cX8_install 55 = .ok (.aload_n 0, 1) := by decide +kernel
theorem dX8_install_56 : decode cX8_install 56 = .ok (.aload_n 0, 1) := by decide +kernel
theorem dX8_install_57 : decode cX8_install 57 = .ok (.getfield 16, 3) := by decide +kernel
theorem dX8_install_60 : decode cX8_install 60 = .ok (.iload_n 1, 1) := by decide +kernel
theorem dX8_install_61 : decode cX8_install 61 = .ok (.iaload, 1) := by decide +kernel
theorem dX8_install_62 : decode cX8_install 62 = .ok (.putfield 163, 3) := by decide +kernel
theorem dX8_install_65 : decode cX8_install 65 = .ok (.aload_n 0, 1) := by decide +kernel
theorem dX8_install_66 : decode cX8_install 66 = .ok (.iconst 0, 1) := by decide +kernel
theorem dX8_install_67 : decode cX8_install 67 = .ok (.putfield 166, 3) := by decide +kernel
theorem dX8_install_70 : decode cX8_install 70 = .ok (.aload_n 0, 1) := by decide +kernel
theorem dX8_install_71 : decode cX8_install 71 = .ok (.iconst 0, 1) := by decide +kernel
theorem dX8_install_72 : decode cX8_install 72 = .ok (.putfield 170, 3) := by decide +kernel
theorem dX8_install_75 : decode cX8_install 75 = .ok (.iconst 1, 1) := by decide +kernel
theorem dX8_install_76 : decode cX8_install 76 = .ok (.ireturn, 1) := by decide +kernel
theorem dX8_checkOfArea_0 : decode cX8_checkOfArea 0 = .ok (.iconst 1, 1) := by decide +kernel
theorem dX8_checkOfArea_1 : decode cX8_checkOfArea 1 = .ok (.istore_n 1, 1) := by decide +kernel
theorem dX8_checkOfArea_2 : decode cX8_checkOfArea 2 = .ok (.iconst 0, 1) := by decide +kernel
theorem dX8_checkOfArea_3 : decode cX8_checkOfArea 3 = .ok (.istore_n 2, 1) := by decide +kernel
theorem dX8_checkOfArea_4 : decode cX8_checkOfArea 4 = .ok (.iload_n 2, 1) := by decide +kernel
theorem dX8_checkOfArea_5 : decode cX8_checkOfArea 5 = .ok (.aload_n 0, 1) := by decide +kernel
theorem dX8_checkOfArea_6 : decode cX8_checkOfArea 6 = .ok (.getfield 163, 3) := by decide +kernel
theorem dX8_checkOfArea_9 : decode cX8_checkOfArea 9 = .ok (.if_icmp .ge 24, 3) := by decide +kernel
theorem dX8_checkOfArea_12 : decode cX8_checkOfArea 12 = .ok (.iload_n 1, 1) := by decide +kernel
theorem dX8_checkOfArea_13 : decode cX8_checkOfArea 13 = .ok (.aload_n 0, 1) := by decide +kernel
theorem dX8_checkOfArea_14 : decode cX8_checkOfArea 14 = .ok (.getfield 66, 3) := by decide +kernel
theorem dX8_checkOfArea_17 : decode cX8_checkOfArea 17 = .ok (.iload_n 2, 1) := by decide +kernel
theorem dX8_checkOfArea_18 : decode cX8_checkOfArea 18 = .ok (.baload, 1) := by decide +kernel
theorem dX8_checkOfArea_19 : decode cX8_checkOfArea 19 = .ok (.sipush 255, 3) := by decide +kernel
theorem dX8_checkOfArea_22 : decode cX8_checkOfArea 22 = .ok (.iand, 1) := by decide +kernel
theorem dX8_checkOfArea_23 : decode cX8_checkOfArea 23 = .ok (.invokestatic 125, 3) := by decide +kernel
theorem dX8_checkOfArea_26 : decode cX8_checkOfArea 26 = .ok (.istore_n 1, 1) := by decide +kernel
theorem dX8_checkOfArea_27 : decode cX8_checkOfArea 27 = .ok (.iinc 2 1, 3) := by decide +kernel
theorem dX8_checkOfArea_30 : decode cX8_checkOfArea 30 = .ok (.goto (-26), 3) := by decide +kernel
theorem dX8_checkOfArea_33 : decode cX8_checkOfArea 33 = .ok (.iload_n 1, 1) := by decide +kernel
theorem dX8_checkOfArea_34 : decode cX8_checkOfArea 34 = .ok (.ireturn, 1) := by decide +kernel
theorem dX8_allWrites_0 : decode cX8_allWrites 0 = .ok (.aload_n 0, 1) := by decide +kernel
theorem dX8_allWrites_1 : decode cX8_allWrites 1 = .ok (.getfield 173, 3) := by decide +kernel
theorem dX8_allWrites_4 : decode cX8_allWrites 4 = .ok (.iconst 2, 1) := by decide +kernel
theorem dX8_allWrites_5 : decode cX8_allWrites 5 = .ok (.iadd, 1) := by decide +kernel
theorem dX8_allWrites_6 : decode cX8_allWrites 6 = .ok (.iconst 2, 1) := by decide +kernel
theorem dX8_allWrites_7 : decode cX8_allWrites 7 = .ok (.aload_n 0, 1) := by decide +kernel
theorem dX8_allWrites_8 : decode cX8_allWrites 8 = .ok (.getfield 176, 3) := by decide +kernel
theorem dX8_allWrites_11 : decode cX8_allWrites 11 = .ok (.imul, 1) := by decide +kernel
theorem dX8_allWrites_12 : decode cX8_allWrites 12 = .ok (.iadd, 1) := by decide +kernel
theorem dX8_allWrites_13 : decode cX8_allWrites 13 = .ok (.ireturn, 1) := by decide +kernel
theorem dX8_update_0 : decode cX8_update 0 = .ok (.aload_n 0, 1) := by decide +kernel
theorem dX8_update_1 : decode cX8_update 1 = .ok (.iload_n 1, 1) := by decide +kernel
theorem dX8_update_2 : decode cX8_update 2 = .ok (.invokevirtual 117, 3) := by decide +kernel
theorem dX8_update_5 : decode cX8_update 5 = .ok (.ifCond .eq 11, 3) := by decide +kernel
theorem dX8_update_8 : decode cX8_update 8 = .ok (.aload_n 0, 1) := by decide +kernel
theorem dX8_update_9 : decode cX8_update 9 = .ok (.iload_n 2, 1) := by decide +kernel
theorem dX8_update_10 : decode cX8_update 10 = .ok (.invokevirtual 117, 3) := by decide +kernel
theorem dX8_update_13 : decode cX8_update 13 = .ok (.ifCond .ne 5, 3) := by decide +kernel
theorem dX8_update_16 : decode cX8_update 16 = .ok (.iconst (-1), 1) := by decide +kernel
theorem dX8_update_17 : decode cX8_update 17 = .ok (.ireturn, 1) := by decide +kernel
theorem dX8_update_18 : decode cX8_update 18 = .ok (.aload_n 0, 1) := by decide +kernel
theorem dX8_update_19 : decode cX8_update 19 = .ok (.getfield 166, 3) := by decide +kernel
theorem dX8_update_22 : decode cX8_update 22 = .ok (.ifCond .eq 6, 3) := by decide +kernel
theorem dX8_update_25 : decode cX8_update 25 = .ok (.bipush (-2), 2) := by decide +kernel
theorem dX8_update_27 : decode cX8_update 27 = .ok (.ireturn, 1) := by decide +kernel
theorem dX8_update_28 : decode cX8_update 28 = .ok (.aload_n 0, 1) := by decide +kernel
theorem dX8_update_29 : decode cX8_update 29 = .ok (.getfield 163, 3) := by decide +kernel
theorem dX8_update_32 : decode cX8_update 32 = .ok (.aload_n 0, 1) := by decide +kernel
theorem dX8_update_33 : decode cX8_update 33 = .ok (.getfield 16, 3) := by decide +kernel
theorem dX8_update_36 : decode cX8_update 36 = .ok (.iload_n 1, 1) := by decide +kernel
theorem dX8_update_37 : decode cX8_update 37 = .ok (.iaload, 1) := by decide +kernel
theorem dX8_update_38 : decode cX8_update 38 = .ok (.if_icmp .ne 15, 3) := by decide +kernel
theorem dX8_update_41 : decode cX8_update 41 = .ok (.aload_n 0, 1) := by decide +kernel
theorem dX8_update_42 : decode cX8_update 42 = .ok (.invokevirtual 179, 3) := by decide +kernel
theorem dX8_update_45 : decode cX8_update 45 = .ok (.aload_n 0, 1) := by decide +kernel
theorem dX8_update_46 : decode cX8_update 46 = .ok (.iload_n 1, 1) := by decide +kernel
theorem dX8_update_47 : decode cX8_update 47 = .ok (.invokevirtual 183, 3) := by decide +kernel
theorem dX8_update_50 : decode cX8_update 50 = .ok (.if_icmp .eq 6, 3) := by decide +kernel
theorem dX8_update_53 : decode cX8_update 53 = .ok (.bipush (-3), 2) := by decide +kernel
theorem dX8_update_55 : decode cX8_update 55 = .ok (.ireturn, 1) := by decide +kernel
theorem dX8_update_56 : decode cX8_update 56 = .ok (.aload_n 0, 1) := by decide +kernel
theorem dX8_update_57 : decode cX8_update 57 = .ok (.iload_n 1, 1) := by decide +kernel
theorem dX8_update_58 : decode cX8_update 58 = .ok (.iload_n 2, 1) := by decide +kernel
theorem dX8_update_59 : decode cX8_update 59 = .ok (.invokevirtual 153, 3) := by decide +kernel
theorem dX8_update_62 : decode cX8_update 62 = .ok (.aload_n 0, 1) := by decide +kernel
theorem dX8_update_63 : decode cX8_update 63 = .ok (.aload_n 0, 1) := by decide +kernel
theorem dX8_update_64 : decode cX8_update 64 = .ok (.getfield 16, 3) := by decide +kernel
theorem dX8_update_67 : decode cX8_update 67 = .ok (.iload_n 2, 1) := by decide +kernel
theorem dX8_update_68 : decode cX8_update 68 = .ok (.iaload, 1) := by decide +kernel
theorem dX8_update_69 : decode cX8_update 69 = .ok (.putfield 176, 3) := by decide +kernel
theorem dX8_update_72 : decode cX8_update 72 = .ok (.aload_n 0, 1) := by decide +kernel
theorem dX8_update_73 : decode cX8_update 73 = .ok (.aload_n 0, 1) := by decide +kernel
theorem dX8_update_74 : decode cX8_update 74 = .ok (.getfield 176, 3) := by decide +kernel
theorem dX8_update_77 : decode cX8_update 77 = .ok (.iconst 0, 1) := by decide +kernel
theorem dX8_update_78 : decode cX8_update 78 = .ok (.invokevirtual 159, 3) := by decide +kernel
theorem dX8_update_81 : decode cX8_update 81 = .ok (.istore_n 3, 1) := by decide +kernel
theorem dX8_update_82 : decode cX8_update 82 = .ok (.aload_n 0, 1) := by decide +kernel
theorem dX8_update_83 : decode cX8_update 83 = .ok (.aload_n 0, 1) := by decide +kernel
theorem dX8_update_84 : decode cX8_update 84 = .ok (.aload_n 0, 1) := by decide +kernel
theorem dX8_update_85 : decode cX8_update 85 = .ok (.getfield 176, 3) := by decide +kernel
theorem dX8_update_88 : decode cX8_update 88 = .ok (.iconst 1, 1) := by decide +kernel
theorem dX8_update_89 : decode cX8_update 89 = .ok (.invokevirtual 159, 3) := by decide +kernel
theorem dX8_update_92 : decode cX8_update 92 = .ok (.iload_n 3, 1) := by decide +kernel
theorem dX8_update_93 : decode cX8_update 93 = .ok (.if_icmp .ge 7, 3) := by decide +kernel
theorem dX8_update_96 : decode cX8_update 96 = .ok (.iconst 1, 1) := by decide +kernel
theorem dX8_update_97 : decode cX8_update 97 = .ok (.goto 4, 3) := by decide +kernel
theorem dX8_update_100 : decode cX8_update 100 = .ok (.iconst 0, 1) := by decide +kernel
theorem dX8_update_101 : decode cX8_update 101 = .ok (.putfield 187, 3) := by decide +kernel
theorem dX8_update_104 : decode cX8_update 104 = .ok (.aload_n 0, 1) := by decide +kernel
theorem dX8_update_105 : decode cX8_update 105 = .ok (.aload_n 0, 1) := by decide +kernel
theorem dX8_update_106 : decode cX8_update 106 = .ok (.aload_n 0, 1) := by decide +kernel
theorem dX8_update_107 : decode cX8_update 107 = .ok (.getfield 176, 3) := by decide +kernel
theorem dX8_update_110 : decode cX8_update 110 = .ok (.aload_n 0, 1) := by decide +kernel
theorem dX8_update_111 : decode cX8_update 111 = .ok (.getfield 187, 3) := by decide +kernel
theorem dX8_update_114 : decode cX8_update 114 = .ok (.invokevirtual 159, 3) := by decide +kernel
theorem dX8_update_117 : decode cX8_update 117 = .ok (.putfield 173, 3) := by decide +kernel
theorem dX8_update_120 : decode cX8_update 120 = .ok (.iconst 0, 1) := by decide +kernel
theorem dX8_update_121 : decode cX8_update 121 = .ok (.istore 4, 2) := by decide +kernel
theorem dX8_update_123 : decode cX8_update 123 = .ok (.iconst 0, 1) := by decide +kernel
theorem dX8_update_124 : decode cX8_update 124 = .ok (.istore 5, 2) := by decide +kernel
theorem dX8_update_126 : decode cX8_update 126 = .ok (.iload 5, 2) := by decide +kernel
theorem dX8_update_128 : decode cX8_update 128 = .ok (.bipush 120, 2) := by decide +kernel
theorem dX8_update_130 : decode cX8_update 130 = .ok (.if_icmp .ge 51, 3) := by decide +kernel
theorem dX8_update_133 : decode cX8_update 133 = .ok (.aload_n 0, 1) := by decide +kernel
theorem dX8_update_134 : decode cX8_update 134 = .ok (.getfield 84, 3) := by decide +kernel
theorem dX8_update_137 : decode cX8_update 137 = .ok (.iload 5, 2) := by decide +kernel
theorem dX8_update_139 : decode cX8_update 139 = .ok (.iconst (-1), 1) := by decide +kernel
theorem dX8_update_140 : decode cX8_update 140 = .ok (.iastore, 1) := by decide +kernel
theorem dX8_update_141 : decode cX8_update 141 = .ok (.aload_n 0, 1) := by decide +kernel
theorem dX8_update_142 : decode cX8_update 142 = .ok (.getfield 62, 3) := by decide +kernel
theorem dX8_update_145 : decode cX8_update 145 = .ok (.iload 5, 2) := by decide +kernel
theorem dX8_update_147 : decode cX8_update 147 = .ok (.baload, 1) := by decide +kernel
theorem dX8_update_148 : decode cX8_update 148 = .ok (.ifCond .ne 6, 3) := by decide +kernel
theorem dX8_update_151 : decode cX8_update 151 = .ok (.goto 24, 3) := by decide +kernel
theorem dX8_update_154 : decode cX8_update 154 = .ok (.aload_n 0, 1) := by decide +kernel
theorem dX8_update_155 : decode cX8_update 155 = .ok (.getfield 81, 3) := by decide +kernel
theorem dX8_update_158 : decode cX8_update 158 = .ok (.iload 4, 2) := by decide +kernel
theorem dX8_update_160 : decode cX8_update 160 = .ok (.iload 5, 2) := by decide +kernel
theorem dX8_update_162 : decode cX8_update 162 = .ok (.iastore, 1) := by decide +kernel
theorem dX8_update_163 : decode cX8_update 163 = .ok (.aload_n 0, 1) := by decide +kernel
theorem dX8_update_164 : decode cX8_update 164 = .ok (.getfield 84, 3) := by decide +kernel
theorem dX8_update_167 : decode cX8_update 167 = .ok (.iload 5, 2) := by decide +kernel
theorem dX8_update_169 : decode cX8_update 169 = .ok (.iload 4, 2) := by decide +kernel
theorem dX8_update_171 : decode cX8_update 171 = .ok (.iastore, 1) := by decide +kernel
theorem dX8_update_172 : decode cX8_update 172 = .ok (.iinc 4 1, 3) := by decide +kernel
theorem dX8_update_175 : decode cX8_update 175 = .ok (.iinc 5 1, 3) := by decide +kernel
theorem dX8_update_178 : decode cX8_update 178 = .ok (.goto (-52), 3) := by decide +kernel
theorem dX8_update_181 : decode cX8_update 181 = .ok (.iconst 0, 1) := by decide +kernel
theorem dX8_update_182 : decode cX8_update 182 = .ok (.istore 5, 2) := by decide +kernel
theorem dX8_update_184 : decode cX8_update 184 = .ok (.iload 5, 2) := by decide +kernel
theorem dX8_update_186 : decode cX8_update 186 = .ok (.aload_n 0, 1) := by decide +kernel
theorem dX8_update_187 : decode cX8_update 187 = .ok (.getfield 176, 3) := by decide +kernel
theorem dX8_update_190 : decode cX8_update 190 = .ok (.if_icmp .ge 51, 3) := by decide +kernel
theorem dX8_update_193 : decode cX8_update 193 = .ok (.aload_n 0, 1) := by decide +kernel
theorem dX8_update_194 : decode cX8_update 194 = .ok (.getfield 72, 3) := by decide +kernel
theorem dX8_update_197 : decode cX8_update 197 = .ok (.iload 5, 2) := by decide +kernel
theorem dX8_update_199 : decode cX8_update 199 = .ok (.aload_n 0, 1) := by decide +kernel
theorem dX8_update_200 : decode cX8_update 200 = .ok (.getfield 38, 3) := by decide +kernel
theorem dX8_update_203 : decode cX8_update 203 = .ok (.iload 5, 2) := by decide +kernel
theorem dX8_update_205 : decode cX8_update 205 = .ok (.iaload, 1) := by decide +kernel
theorem dX8_update_206 : decode cX8_update 206 = .ok (.iastore, 1) := by decide +kernel
theorem dX8_update_207 : decode cX8_update 207 = .ok (.aload_n 0, 1) := by decide +kernel
theorem dX8_update_208 : decode cX8_update 208 = .ok (.getfield 75, 3) := by decide +kernel
theorem dX8_update_211 : decode cX8_update 211 = .ok (.iload 5, 2) := by decide +kernel
theorem dX8_update_213 : decode cX8_update 213 = .ok (.aload_n 0, 1) := by decide +kernel
theorem dX8_update_214 : decode cX8_update 214 = .ok (.getfield 41, 3) := by decide +kernel
theorem dX8_update_217 : decode cX8_update 217 = .ok (.iload 5, 2) := by decide +kernel
theorem dX8_update_219 : decode cX8_update 219 = .ok (.iaload, 1) := by decide +kernel
theorem dX8_update_220 : decode cX8_update 220 = .ok (.iastore, 1) := by decide +kernel
theorem dX8_update_221 : decode cX8_update 221 = .ok (.aload_n 0, 1) := by decide +kernel
theorem dX8_update_222 : decode cX8_update 222 = .ok (.getfield 78, 3) := by decide +kernel
theorem dX8_update_225 : decode cX8_update 225 = .ok (.iload 5, 2) := by decide +kernel
theorem dX8_update_227 : decode cX8_update 227 = .ok (.aload_n 0, 1) := by decide +kernel
theorem dX8_update_228 : decode cX8_update 228 = .ok (.iload_n 2, 1) := by decide +kernel
theorem dX8_update_229 : decode cX8_update 229 = .ok (.iload 5, 2) := by decide +kernel
theorem dX8_update_231 : decode cX8_update 231 = .ok (.invokevirtual 121, 3) := by decide +kernel
theorem dX8_update_234 : decode cX8_update 234 = .ok (.iastore, 1) := by decide +kernel
theorem dX8_update_235 : decode cX8_update 235 = .ok (.iinc 5 1, 3) := by decide +kernel
theorem dX8_update_238 : decode cX8_update 238 = .ok (.goto (-54), 3) := by decide +kernel
theorem dX8_update_241 : decode cX8_update 241 = .ok (.aload_n 0, 1) := by decide +kernel
theorem dX8_update_242 : decode cX8_update 242 = .ok (.iconst 1, 1) := by decide +kernel
theorem dX8_update_243 : decode cX8_update 243 = .ok (.putfield 166, 3) := by decide +kernel
theorem dX8_update_246 : decode cX8_update 246 = .ok (.aload_n 0, 1) := by decide +kernel
theorem dX8_update_247 : decode cX8_update 247 = .ok (.iconst 0, 1) := by decide +kernel
theorem dX8_update_248 : decode cX8_update 248 = .ok (.putfield 170, 3) := by decide +kernel
theorem dX8_update_251 : decode cX8_update 251 = .ok (.aload_n 0, 1) := by decide +kernel
theorem dX8_update_252 : decode cX8_update 252 = .ok (.iconst 0, 1) := by decide +kernel
theorem dX8_update_253 : decode cX8_update 253 = .ok (.putfield 190, 3) := by decide +kernel
theorem dX8_update_256 : decode cX8_update 256 = .ok (.aload_n 0, 1) := by decide +kernel
theorem dX8_update_257 : decode cX8_update 257 = .ok (.invokevirtual 193, 3) := by decide +kernel
theorem dX8_update_260 : decode cX8_update 260 = .ok (.ireturn, 1) := by decide +kernel
theorem dX8_writeOne_0 : decode cX8_writeOne 0 = .ok (.iload_n 1, 1) := by decide +kernel
theorem dX8_writeOne_1 : decode cX8_writeOne 1 = .ok (.aload_n 0, 1) := by decide +kernel
theorem dX8_writeOne_2 : decode cX8_writeOne 2 = .ok (.getfield 173, 3) := by decide +kernel
theorem dX8_writeOne_5 : decode cX8_writeOne 5 = .ok (.if_icmp .ge 23, 3) := by decide +kernel
theorem dX8_writeOne_8 : decode cX8_writeOne 8 = .ok (.aload_n 0, 1) := by decide +kernel
theorem dX8_writeOne_9 : decode cX8_writeOne 9 = .ok (.getfield 69, 3) := by decide +kernel
theorem dX8_writeOne_12 : decode cX8_writeOne 12 = .ok (.iload_n 1, 1) := by decide +kernel
theorem dX8_writeOne_13 : decode cX8_writeOne 13 = .ok (.aload_n 0, 1) := by decide +kernel
theorem dX8_writeOne_14 : decode cX8_writeOne 14 = .ok (.getfield 66, 3) := by decide +kernel
theorem dX8_writeOne_17 : decode cX8_writeOne 17 = .ok (.aload_n 0, 1) := by decide +kernel
theorem dX8_writeOne_18 : decode cX8_writeOne 18 = .ok (.getfield 81, 3) := by decide +kernel
theorem dX8_writeOne_21 : decode cX8_writeOne 21 = .ok (.iload_n 1, 1) := by decide +kernel
theorem dX8_writeOne_22 : decode cX8_writeOne 22 = .ok (.iaload, 1) := by decide +kernel
theorem dX8_writeOne_23 : decode cX8_writeOne 23 = .ok (.baload, 1) := by decide +kernel
theorem dX8_writeOne_24 : decode cX8_writeOne 24 = .ok (.bastore, 1) := by decide +kernel
theorem dX8_writeOne_25 : decode cX8_writeOne 25 = .ok (.goto 150, 3) := by decide +kernel
theorem dX8_writeOne_28 : decode cX8_writeOne 28 = .ok (.iload_n 1, 1) := by decide +kernel
theorem dX8_writeOne_29 : decode cX8_writeOne 29 = .ok (.aload_n 0, 1) := by decide +kernel
theorem dX8_writeOne_30 : decode cX8_writeOne 30 = .ok (.invokevirtual 193, 3) := by decide +kernel
theorem dX8_writeOne_33 : decode cX8_writeOne 33 = .ok (.iconst 1, 1) := by decide +kernel
theorem dX8_writeOne_34 : decode cX8_writeOne 34 = .ok (.isub, 1) := by decide +kernel
theorem dX8_writeOne_35 : decode cX8_writeOne 35 = .ok (.if_icmp .ne 19, 3) := by decide +kernel
theorem dX8_writeOne_38 : decode cX8_writeOne 38 = .ok (.aload_n 0, 1) := by decide +kernel
theorem dX8_writeOne_39 : decode cX8_writeOne 39 = .ok (.aload_n 0, 1) := by decide +kernel
theorem dX8_writeOne_40 : decode cX8_writeOne 40 = .ok (.getfield 176, 3) := by decide +kernel
theorem dX8_writeOne_43 : decode cX8_writeOne 43 = .ok (.putfield 163, 3) := by decide +kernel
theorem dX8_writeOne_46 : decode cX8_writeOne 46 = .ok (.aload_n 0, 1) := by decide +kernel
theorem dX8_writeOne_47 : decode cX8_writeOne 47 = .ok (.iconst 0, 1) := by decide +kernel
theorem dX8_writeOne_48 : decode cX8_writeOne 48 = .ok (.putfield 166, 3) := by decide +kernel
theorem dX8_writeOne_51 : decode cX8_writeOne 51 = .ok (.goto 124, 3) := by decide +kernel
theorem dX8_writeOne_54 : decode cX8_writeOne 54 = .ok (.iload_n 1, 1) := by decide +kernel
theorem dX8_writeOne_55 : decode cX8_writeOne 55 = .ok (.aload_n 0, 1) := by decide +kernel
theorem dX8_writeOne_56 : decode cX8_writeOne 56 = .ok (.getfield 173, 3) := by decide +kernel
theorem dX8_writeOne_59 : decode cX8_writeOne 59 = .ok (.if_icmp .le 116, 3) := by decide +kernel
theorem dX8_writeOne_62 : decode cX8_writeOne 62 = .ok (.iload_n 1, 1) := by decide +kernel
theorem dX8_writeOne_63 : decode cX8_writeOne 63 = .ok (.aload_n 0, 1) := by decide +kernel
theorem dX8_writeOne_64 : decode cX8_writeOne 64 = .ok (.getfield 173, 3) := by decide +kernel
theorem dX8_writeOne_67 : decode cX8_writeOne 67 = .ok (.isub, 1) := by decide +kernel
theorem dX8_writeOne_68 : decode cX8_writeOne 68 = .ok (.iconst 2, 1) := by decide +kernel
theorem dX8_writeOne_69 : decode cX8_writeOne 69 = .ok (.irem, 1) := by decide +kernel
theorem dX8_writeOne_70 : decode cX8_writeOne 70 = .ok (.iconst 1, 1) := by decide +kernel
theorem dX8_writeOne_71 : decode cX8_writeOne 71 = .ok (.if_icmp .ne 104, 3) := by decide +kernel
theorem dX8_writeOne_74 : decode cX8_writeOne 74 = .ok (.iload_n 1, 1) := by decide +kernel
theorem dX8_writeOne_75 : decode cX8_writeOne 75 = .ok (.aload_n 0, 1) := by decide +kernel
theorem dX8_writeOne_76 : decode cX8_writeOne 76 = .ok (.getfield 173, 3) := by decide +kernel
theorem dX8_writeOne_79 : decode cX8_writeOne 79 = .ok (.isub, 1) := by decide +kernel
theorem dX8_writeOne_80 : decode cX8_writeOne 80 = .ok (.iconst 1, 1) := by decide +kernel
theorem dX8_writeOne_81 : decode cX8_writeOne 81 = .ok (.isub, 1) := by decide +kernel
theorem dX8_writeOne_82 : decode cX8_writeOne 82 = .ok (.iconst 2, 1) := by decide +kernel
theorem dX8_writeOne_83 : decode cX8_writeOne 83 = .ok (.idiv, 1) := by decide +kernel
theorem dX8_writeOne_84 : decode cX8_writeOne 84 = .ok (.istore_n 2, 1) := by decide +kernel
theorem dX8_writeOne_85 : decode cX8_writeOne 85 = .ok (.aload_n 0, 1) := by decide +kernel
theorem dX8_writeOne_86 : decode cX8_writeOne 86 = .ok (.getfield 187, 3) := by decide +kernel
theorem dX8_writeOne_89 : decode cX8_writeOne 89 = .ok (.ifCond .eq 14, 3) := by decide +kernel
theorem dX8_writeOne_92 : decode cX8_writeOne 92 = .ok (.aload_n 0, 1) := by decide +kernel
theorem dX8_writeOne_93 : decode cX8_writeOne 93 = .ok (.getfield 176, 3) := by decide +kernel
theorem dX8_writeOne_96 : decode cX8_writeOne 96 = .ok (.iconst 1, 1) := by decide +kernel
theorem dX8_writeOne_97 : decode cX8_writeOne 97 = .ok (.isub, 1) := by decide +kernel
theorem dX8_writeOne_98 : decode cX8_writeOne 98 = .ok (.iload_n 2, 1) := by decide +kernel
theorem dX8_writeOne_99 : decode cX8_writeOne 99 = .ok (.isub, 1) := by decide +kernel
theorem dX8_writeOne_100 : decode cX8_writeOne 100 = .ok (.goto 4, 3) := by decide +kernel
theorem dX8_writeOne_103 : decode cX8_writeOne 103 = .ok (.iload_n 2, 1) := by decide +kernel
theorem dX8_writeOne_104 : decode cX8_writeOne 104 = .ok (.istore_n 3, 1) := by decide +kernel
theorem dX8_writeOne_105 : decode cX8_writeOne 105 = .ok (.aload_n 0, 1) := by decide +kernel
theorem dX8_writeOne_106 : decode cX8_writeOne 106 = .ok (.getfield 72, 3) := by decide +kernel
theorem dX8_writeOne_109 : decode cX8_writeOne 109 = .ok (.iload_n 3, 1) := by decide +kernel
theorem dX8_writeOne_110 : decode cX8_writeOne 110 = .ok (.iaload, 1) := by decide +kernel
theorem dX8_writeOne_111 : decode cX8_writeOne 111 = .ok (.istore 4, 2) := by decide +kernel
theorem dX8_writeOne_113 : decode cX8_writeOne 113 = .ok (.aload_n 0, 1) := by decide +kernel
theorem dX8_writeOne_114 : decode cX8_writeOne 114 = .ok (.getfield 66, 3) := by decide +kernel
theorem dX8_writeOne_117 : decode cX8_writeOne 117 = .ok (.iload_n 3, 1) := by decide +kernel
theorem dX8_writeOne_118 : decode cX8_writeOne 118 = .ok (.iload 4, 2) := by decide +kernel
theorem dX8_writeOne_120 : decode cX8_writeOne 120 = .ok (.iconst (-1), 1) := by decide +kernel
theorem dX8_writeOne_121 : decode cX8_writeOne 121 = .ok (.if_icmp .ne 12, 3) := by decide +kernel
theorem dX8_writeOne_124 : decode cX8_writeOne 124 = .ok (.aload_n 0, 1) := by decide +kernel
theorem dX8_writeOne_125 : decode cX8_writeOne 125 = .ok (.getfield 78, 3) := by decide +kernel
theorem dX8_writeOne_128 : decode cX8_writeOne 128 = .ok (.iload_n 3, 1) := by decide +kernel
theorem dX8_writeOne_129 : decode cX8_writeOne 129 = .ok (.iaload, 1) := by decide +kernel
theorem dX8_writeOne_130 : decode cX8_writeOne 130 = .ok (.goto 43, 3) := by decide +kernel
theorem dX8_writeOne_133 : decode cX8_writeOne 133 = .ok (.aload_n 0, 1) := by decide +kernel
theorem dX8_writeOne_134 : decode cX8_writeOne 134 = .ok (.getfield 84, 3) := by decide +kernel
theorem dX8_writeOne_137 : decode cX8_writeOne 137 = .ok (.iload 4, 2) := by decide +kernel
theorem dX8_writeOne_139 : decode cX8_writeOne 139 = .ok (.iaload, 1) := by decide +kernel
theorem dX8_writeOne_140 : decode cX8_writeOne 140 = .ok (.iconst (-1), 1) := by decide +kernel
theorem dX8_writeOne_141 : decode cX8_writeOne 141 = .ok (.if_icmp .ne 13, 3) := by decide +kernel
theorem dX8_writeOne_144 : decode cX8_writeOne 144 = .ok (.aload_n 0, 1) := by decide +kernel
theorem dX8_writeOne_145 : decode cX8_writeOne 145 = .ok (.getfield 66, 3) := by decide +kernel
theorem dX8_writeOne_148 : decode cX8_writeOne 148 = .ok (.iload 4, 2) := by decide +kernel
theorem dX8_writeOne_150 : decode cX8_writeOne 150 = .ok (.baload, 1) := by decide +kernel
theorem dX8_writeOne_151 : decode cX8_writeOne 151 = .ok (.goto 15, 3) := by decide +kernel
theorem dX8_writeOne_154 : decode cX8_writeOne 154 = .ok (.aload_n 0, 1) := by decide +kernel
theorem dX8_writeOne_155 : decode cX8_writeOne 155 = .ok (.getfield 69, 3) := by decide +kernel
theorem dX8_writeOne_158 : decode cX8_writeOne 158 = .ok (.aload_n 0, 1) := by decide +kernel
theorem dX8_writeOne_159 : decode cX8_writeOne 159 = .ok (.getfield 84, 3) := by decide +kernel
theorem dX8_writeOne_162 : decode cX8_writeOne 162 = .ok (.iload 4, 2) := by decide +kernel
theorem dX8_writeOne_164 : decode cX8_writeOne 164 = .ok (.iaload, 1) := by decide +kernel
theorem dX8_writeOne_165 : decode cX8_writeOne 165 = .ok (.baload, 1) := by decide +kernel
theorem dX8_writeOne_166 : decode cX8_writeOne 166 = .ok (.aload_n 0, 1) := by decide +kernel
theorem dX8_writeOne_167 : decode cX8_writeOne 167 = .ok (.getfield 75, 3) := by decide +kernel
theorem dX8_writeOne_170 : decode cX8_writeOne 170 = .ok (.iload_n 3, 1) := by decide +kernel
theorem dX8_writeOne_171 : decode cX8_writeOne 171 = .ok (.iaload, 1) := by decide +kernel
theorem dX8_writeOne_172 : decode cX8_writeOne 172 = .ok (.iadd, 1) := by decide +kernel
theorem dX8_writeOne_173 : decode cX8_writeOne 173 = .ok (.i2b, 1) := by decide +kernel
theorem dX8_writeOne_174 : decode cX8_writeOne 174 = .ok (.bastore, 1) := by decide +kernel
theorem dX8_writeOne_175 : decode cX8_writeOne 175 = .ok (.aload_n 0, 1) := by decide +kernel
theorem dX8_writeOne_176 : decode cX8_writeOne 176 = .ok (.dup, 1) := by decide +kernel
theorem dX8_writeOne_177 : decode cX8_writeOne 177 = .ok (.getfield 196, 3) := by decide +kernel
theorem dX8_writeOne_180 : decode cX8_writeOne 180 = .ok (.iconst 1, 1) := by decide +kernel
theorem dX8_writeOne_181 : decode cX8_writeOne 181 = .ok (.iadd, 1) := by decide +kernel
theorem dX8_writeOne_182 : decode cX8_writeOne 182 = .ok (.putfield 196, 3) := by decide +kernel
theorem dX8_writeOne_185 : decode cX8_writeOne 185 = .ok (.aload_n 0, 1) := by decide +kernel
theorem dX8_writeOne_186 : decode cX8_writeOne 186 = .ok (.dup, 1) := by decide +kernel
theorem dX8_writeOne_187 : decode cX8_writeOne 187 = .ok (.getfield 190, 3) := by decide +kernel
theorem dX8_writeOne_190 : decode cX8_writeOne 190 = .ok (.iconst 1, 1) := by decide +kernel
theorem dX8_writeOne_191 : decode cX8_writeOne 191 = .ok (.iadd, 1) := by decide +kernel
theorem dX8_writeOne_192 : decode cX8_writeOne 192 = .ok (.putfield 190, 3) := by decide +kernel
