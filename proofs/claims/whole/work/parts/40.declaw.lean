theorem dL_law_0 : decode code 0 = .ok (.new 8, 3) := by decide +kernel
theorem dL_law_3 : decode code 3 = .ok (.dup, 1) := by decide +kernel
theorem dL_law_4 : decode code 4 = .ok (.aload_n 0, 1) := by decide +kernel
theorem dL_law_5 : decode code 5 = .ok (.iconst 0, 1) := by decide +kernel
theorem dL_law_6 : decode code 6 = .ok (.invokestatic 49, 3) := by decide +kernel
theorem dL_law_9 : decode code 9 = .ok (.aload_n 0, 1) := by decide +kernel
theorem dL_law_10 : decode code 10 = .ok (.iconst 1, 1) := by decide +kernel
theorem dL_law_11 : decode code 11 = .ok (.invokestatic 49, 3) := by decide +kernel
theorem dL_law_14 : decode code 14 = .ok (.invokespecial 55, 3) := by decide +kernel
theorem dL_law_17 : decode code 17 = .ok (.astore_n 1, 1) := by decide +kernel
theorem dL_law_18 : decode code 18 = .ok (.new 58, 3) := by decide +kernel
theorem dL_law_21 : decode code 21 = .ok (.dup, 1) := by decide +kernel
theorem dL_law_22 : decode code 22 = .ok (.aload_n 0, 1) := by decide +kernel
theorem dL_law_23 : decode code 23 = .ok (.iconst 0, 1) := by decide +kernel
theorem dL_law_24 : decode code 24 = .ok (.invokestatic 49, 3) := by decide +kernel
theorem dL_law_27 : decode code 27 = .ok (.aload_n 0, 1) := by decide +kernel
theorem dL_law_28 : decode code 28 = .ok (.iconst 1, 1) := by decide +kernel
theorem dL_law_29 : decode code 29 = .ok (.invokestatic 49, 3) := by decide +kernel
theorem dL_law_32 : decode code 32 = .ok (.invokespecial 60, 3) := by decide +kernel
theorem dL_law_35 : decode code 35 = .ok (.astore_n 2, 1) := by decide +kernel
theorem dL_law_36 : decode code 36 = .ok (.iconst 1, 1) := by decide +kernel
theorem dL_law_37 : decode code 37 = .ok (.newarray .long, 2) := by decide +kernel
theorem dL_law_39 : decode code 39 = .ok (.astore_n 3, 1) := by decide +kernel
theorem dL_law_40 : decode code 40 = .ok (.iconst 2, 1) := by decide +kernel
theorem dL_law_41 : decode code 41 = .ok (.istore 4, 2) := by decide +kernel
theorem dL_law_43 : decode code 43 = .ok (.iload 4, 2) := by decide +kernel
theorem dL_law_45 : decode code 45 = .ok (.aload_n 0, 1) := by decide +kernel
theorem dL_law_46 : decode code 46 = .ok (.arraylength, 1) := by decide +kernel
theorem dL_law_47 : decode code 47 = .ok (.iconst 5, 1) := by decide +kernel
theorem dL_law_48 : decode code 48 = .ok (.isub, 1) := by decide +kernel
theorem dL_law_49 : decode code 49 = .ok (.if_icmp .gt 674, 3) := by decide +kernel
theorem dL_law_52 : decode code 52 = .ok (.aload_n 0, 1) := by decide +kernel
theorem dL_law_53 : decode code 53 = .ok (.iload 4, 2) := by decide +kernel
theorem dL_law_55 : decode code 55 = .ok (.iaload, 1) := by decide +kernel
theorem dL_law_56 : decode code 56 = .ok (.bipush 15, 2) := by decide +kernel
theorem dL_law_58 : decode code 58 = .ok (.iand, 1) := by decide +kernel
theorem dL_law_59 : decode code 59 = .ok (.tableswitch 658 0 11 #[61, 161, 273, 297, 341, 385, 429, 465, 478, 491, 546, 602], 61) := by decide +kernel
theorem dL_law_120 : decode code 120 = .ok (.aload_n 1, 1) := by decide +kernel
theorem dL_law_121 : decode code 121 = .ok (.aload_n 0, 1) := by decide +kernel
theorem dL_law_122 : decode code 122 = .ok (.iload 4, 2) := by decide +kernel
theorem dL_law_124 : decode code 124 = .ok (.iconst 1, 1) := by decide +kernel
theorem dL_law_125 : decode code 125 = .ok (.iadd, 1) := by decide +kernel
theorem dL_law_126 : decode code 126 = .ok (.iaload, 1) := by decide +kernel
theorem dL_law_127 : decode code 127 = .ok (.aload_n 0, 1) := by decide +kernel
theorem dL_law_128 : decode code 128 = .ok (.iload 4, 2) := by decide +kernel
theorem dL_law_130 : decode code 130 = .ok (.iconst 2, 1) := by decide +kernel
theorem dL_law_131 : decode code 131 = .ok (.iadd, 1) := by decide +kernel
theorem dL_law_132 : decode code 132 = .ok (.iaload, 1) := by decide +kernel
theorem dL_law_133 : decode code 133 = .ok (.i2l, 1) := by decide +kernel
theorem dL_law_134 : decode code 134 = .ok (.bipush 32, 2) := by decide +kernel
theorem dL_law_136 : decode code 136 = .ok (.lshl, 1) := by decide +kernel
theorem dL_law_137 : decode code 137 = .ok (.aload_n 0, 1) := by decide +kernel
theorem dL_law_138 : decode code 138 = .ok (.iload 4, 2) := by decide +kernel
theorem dL_law_140 : decode code 140 = .ok (.iconst 3, 1) := by decide +kernel
theorem dL_law_141 : decode code 141 = .ok (.iadd, 1) := by decide +kernel
theorem dL_law_142 : decode code 142 = .ok (.iaload, 1) := by decide +kernel
theorem dL_law_143 : decode code 143 = .ok (.i2l, 1) := by decide +kernel
theorem dL_law_144 : decode code 144 = .ok (.ldc2_w 61, 3) := by decide +kernel
theorem dL_law_147 : decode code 147 = .ok (.land, 1) := by decide +kernel
theorem dL_law_148 : decode code 148 = .ok (.lor, 1) := by decide +kernel
theorem dL_law_149 : decode code 149 = .ok (.aload_n 3, 1) := by decide +kernel
theorem dL_law_150 : decode code 150 = .ok (.invokestatic 63, 3) := by decide +kernel
theorem dL_law_153 : decode code 153 = .ok (.istore 5, 2) := by decide +kernel
theorem dL_law_155 : decode code 155 = .ok (.aload_n 2, 1) := by decide +kernel
theorem dL_law_156 : decode code 156 = .ok (.aload_n 0, 1) := by decide +kernel
theorem dL_law_157 : decode code 157 = .ok (.iload 4, 2) := by decide +kernel
theorem dL_law_159 : decode code 159 = .ok (.iconst 1, 1) := by decide +kernel
theorem dL_law_160 : decode code 160 = .ok (.iadd, 1) := by decide +kernel
theorem dL_law_161 : decode code 161 = .ok (.iaload, 1) := by decide +kernel
theorem dL_law_162 : decode code 162 = .ok (.aload_n 0, 1) := by decide +kernel
theorem dL_law_163 : decode code 163 = .ok (.iload 4, 2) := by decide +kernel
theorem dL_law_165 : decode code 165 = .ok (.iconst 2, 1) := by decide +kernel
theorem dL_law_166 : decode code 166 = .ok (.iadd, 1) := by decide +kernel
theorem dL_law_167 : decode code 167 = .ok (.iaload, 1) := by decide +kernel
theorem dL_law_168 : decode code 168 = .ok (.i2l, 1) := by decide +kernel
theorem dL_law_169 : decode code 169 = .ok (.bipush 32, 2) := by decide +kernel
theorem dL_law_171 : decode code 171 = .ok (.lshl, 1) := by decide +kernel
theorem dL_law_172 : decode code 172 = .ok (.aload_n 0, 1) := by decide +kernel
theorem dL_law_173 : decode code 173 = .ok (.iload 4, 2) := by decide +kernel
theorem dL_law_175 : decode code 175 = .ok (.iconst 3, 1) := by decide +kernel
theorem dL_law_176 : decode code 176 = .ok (.iadd, 1) := by decide +kernel
theorem dL_law_177 : decode code 177 = .ok (.iaload, 1) := by decide +kernel
theorem dL_law_178 : decode code 178 = .ok (.i2l, 1) := by decide +kernel
theorem dL_law_179 : decode code 179 = .ok (.ldc2_w 61, 3) := by decide +kernel
theorem dL_law_182 : decode code 182 = .ok (.land, 1) := by decide +kernel
theorem dL_law_183 : decode code 183 = .ok (.lor, 1) := by decide +kernel
theorem dL_law_184 : decode code 184 = .ok (.invokevirtual 66, 3) := by decide +kernel
theorem dL_law_187 : decode code 187 = .ok (.istore 6, 2) := by decide +kernel
theorem dL_law_189 : decode code 189 = .ok (.aload_n 2, 1) := by decide +kernel
theorem dL_law_190 : decode code 190 = .ok (.invokevirtual 67, 3) := by decide +kernel
theorem dL_law_193 : decode code 193 = .ok (.iload 5, 2) := by decide +kernel
theorem dL_law_195 : decode code 195 = .ok (.if_icmp .eq 5, 3) := by decide +kernel
theorem dL_law_198 : decode code 198 = .ok (.iconst 0, 1) := by decide +kernel
theorem dL_law_199 : decode code 199 = .ok (.ireturn, 1) := by decide +kernel
theorem dL_law_200 : decode code 200 = .ok (.iload 5, 2) := by decide +kernel
theorem dL_law_202 : decode code 202 = .ok (.ifCond .ne 15, 3) := by decide +kernel
theorem dL_law_205 : decode code 205 = .ok (.aload_n 3, 1) := by decide +kernel
theorem dL_law_206 : decode code 206 = .ok (.iconst 0, 1) := by decide +kernel
theorem dL_law_207 : decode code 207 = .ok (.laload, 1) := by decide +kernel
theorem dL_law_208 : decode code 208 = .ok (.iload 6, 2) := by decide +kernel
theorem dL_law_210 : decode code 210 = .ok (.i2l, 1) := by decide +kernel
theorem dL_law_211 : decode code 211 = .ok (.lcmp, 1) := by decide +kernel
theorem dL_law_212 : decode code 212 = .ok (.ifCond .eq 5, 3) := by decide +kernel
theorem dL_law_215 : decode code 215 = .ok (.iconst 0, 1) := by decide +kernel
theorem dL_law_216 : decode code 216 = .ok (.ireturn, 1) := by decide +kernel
theorem dL_law_217 : decode code 217 = .ok (.goto 500, 3) := by decide +kernel
theorem dL_law_220 : decode code 220 = .ok (.aload_n 1, 1) := by decide +kernel
theorem dL_law_221 : decode code 221 = .ok (.aload_n 0, 1) := by decide +kernel
theorem dL_law_222 : decode code 222 = .ok (.iload 4, 2) := by decide +kernel
theorem dL_law_224 : decode code 224 = .ok (.iconst 1, 1) := by decide +kernel
theorem dL_law_225 : decode code 225 = .ok (.iadd, 1) := by decide +kernel
theorem dL_law_226 : decode code 226 = .ok (.iaload, 1) := by decide +kernel
theorem dL_law_227 : decode code 227 = .ok (.aload_n 0, 1) := by decide +kernel
theorem dL_law_228 : decode code 228 = .ok (.iload 4, 2) := by decide +kernel
theorem dL_law_230 : decode code 230 = .ok (.iconst 2, 1) := by decide +kernel
theorem dL_law_231 : decode code 231 = .ok (.iadd, 1) := by decide +kernel
theorem dL_law_232 : decode code 232 = .ok (.iaload, 1) := by decide +kernel
theorem dL_law_233 : decode code 233 = .ok (.aload_n 0, 1) := by decide +kernel
theorem dL_law_234 : decode code 234 = .ok (.iload 4, 2) := by decide +kernel
theorem dL_law_236 : decode code 236 = .ok (.iconst 3, 1) := by decide +kernel
theorem dL_law_237 : decode code 237 = .ok (.iadd, 1) := by decide +kernel
theorem dL_law_238 : decode code 238 = .ok (.iaload, 1) := by decide +kernel
theorem dL_law_239 : decode code 239 = .ok (.i2l, 1) := by decide +kernel
theorem dL_law_240 : decode code 240 = .ok (.bipush 32, 2) := by decide +kernel
theorem dL_law_242 : decode code 242 = .ok (.lshl, 1) := by decide +kernel
theorem dL_law_243 : decode code 243 = .ok (.aload_n 0, 1) := by decide +kernel
theorem dL_law_244 : decode code 244 = .ok (.iload 4, 2) := by decide +kernel
theorem dL_law_246 : decode code 246 = .ok (.iconst 4, 1) := by decide +kernel
theorem dL_law_247 : decode code 247 = .ok (.iadd, 1) := by decide +kernel
theorem dL_law_248 : decode code 248 = .ok (.iaload, 1) := by decide +kernel
theorem dL_law_249 : decode code 249 = .ok (.i2l, 1) := by decide +kernel
theorem dL_law_250 : decode code 250 = .ok (.ldc2_w 61, 3) := by decide +kernel
theorem dL_law_253 : decode code 253 = .ok (.land, 1) := by decide +kernel
theorem dL_law_254 : decode code 254 = .ok (.lor, 1) := by decide +kernel
theorem dL_law_255 : decode code 255 = .ok (.aload_n 3, 1) := by decide +kernel
theorem dL_law_256 : decode code 256 = .ok (.invokestatic 70, 3) := by decide +kernel
theorem dL_law_259 : decode code 259 = .ok (.istore 5, 2) := by decide +kernel
theorem dL_law_261 : decode code 261 = .ok (.aload_n 2, 1) := by decide +kernel
theorem dL_law_262 : decode code 262 = .ok (.aload_n 0, 1) := by decide +kernel
theorem dL_law_263 : decode code 263 = .ok (.iload 4, 2) := by decide +kernel
theorem dL_law_265 : decode code 265 = .ok (.iconst 1, 1) := by decide +kernel
theorem dL_law_266 : decode code 266 = .ok (.iadd, 1) := by decide +kernel
theorem dL_law_267 : decode code 267 = .ok (.iaload, 1) := by decide +kernel
theorem dL_law_268 : decode code 268 = .ok (.aload_n 0, 1) := by decide +kernel
theorem dL_law_269 : decode code 269 = .ok (.iload 4, 2) := by decide +kernel
theorem dL_law_271 : decode code 271 = .ok (.iconst 2, 1) := by decide +kernel
theorem dL_law_272 : decode code 272 = .ok (.iadd, 1) := by decide +kernel
theorem dL_law_273 : decode code 273 = .ok (.iaload, 1) := by decide +kernel
theorem dL_law_274 : decode code 274 = .ok (.aload_n 0, 1) := by decide +kernel
theorem dL_law_275 : decode code 275 = .ok (.iload 4, 2) := by decide +kernel
theorem dL_law_277 : decode code 277 = .ok (.iconst 3, 1) := by decide +kernel
theorem dL_law_278 : decode code 278 = .ok (.iadd, 1) := by decide +kernel
theorem dL_law_279 : decode code 279 = .ok (.iaload, 1) := by decide +kernel
theorem dL_law_280 : decode code 280 = .ok (.i2l, 1) := by decide +kernel
theorem dL_law_281 : decode code 281 = .ok (.bipush 32, 2) := by decide +kernel
theorem dL_law_283 : decode code 283 = .ok (.lshl, 1) := by decide +kernel
theorem dL_law_284 : decode code 284 = .ok (.aload_n 0, 1) := by decide +kernel
theorem dL_law_285 : decode code 285 = .ok (.iload 4, 2) := by decide +kernel
theorem dL_law_287 : decode code 287 = .ok (.iconst 4, 1) := by decide +kernel
theorem dL_law_288 : decode code 288 = .ok (.iadd, 1) := by decide +kernel
theorem dL_law_289 : decode code 289 = .ok (.iaload, 1) := by decide +kernel
theorem dL_law_290 : decode code 290 = .ok (.i2l, 1) := by decide +kernel
theorem dL_law_291 : decode code 291 = .ok (.ldc2_w 61, 3) := by decide +kernel
theorem dL_law_294 : decode code 294 = .ok (.land, 1) := by decide +kernel
theorem dL_law_295 : decode code 295 = .ok (.lor, 1) := by decide +kernel
theorem dL_law_296 : decode code 296 = .ok (.invokevirtual 73, 3) := by decide +kernel
theorem dL_law_299 : decode code 299 = .ok (.istore 6, 2) := by decide +kernel
theorem dL_law_301 : decode code 301 = .ok (.aload_n 2, 1) := by decide +kernel
theorem dL_law_302 : decode code 302 = .ok (.invokevirtual 67, 3) := by decide +kernel
theorem dL_law_305 : decode code 305 = .ok (.iload 5, 2) := by decide +kernel
theorem dL_law_307 : decode code 307 = .ok (.if_icmp .eq 5, 3) := by decide +kernel
theorem dL_law_310 : decode code 310 = .ok (.iconst 0, 1) := by decide +kernel
theorem dL_law_311 : decode code 311 = .ok (.ireturn, 1) := by decide +kernel
theorem dL_law_312 : decode code 312 = .ok (.iload 5, 2) := by decide +kernel
theorem dL_law_314 : decode code 314 = .ok (.ifCond .ne 15, 3) := by decide +kernel
theorem dL_law_317 : decode code 317 = .ok (.aload_n 3, 1) := by decide +kernel
theorem dL_law_318 : decode code 318 = .ok (.iconst 0, 1) := by decide +kernel
theorem dL_law_319 : decode code 319 = .ok (.laload, 1) := by decide +kernel
theorem dL_law_320 : decode code 320 = .ok (.iload 6, 2) := by decide +kernel
theorem dL_law_322 : decode code 322 = .ok (.i2l, 1) := by decide +kernel
theorem dL_law_323 : decode code 323 = .ok (.lcmp, 1) := by decide +kernel
theorem dL_law_324 : decode code 324 = .ok (.ifCond .eq 5, 3) := by decide +kernel
theorem dL_law_327 : decode code 327 = .ok (.iconst 0, 1) := by decide +kernel
theorem dL_law_328 : decode code 328 = .ok (.ireturn, 1) := by decide +kernel
theorem dL_law_329 : decode code 329 = .ok (.goto 388, 3) := by decide +kernel
theorem dL_law_332 : decode code 332 = .ok (.aload_n 1, 1) := by decide +kernel
theorem dL_law_333 : decode code 333 = .ok (.invokestatic 74, 3) := by decide +kernel
theorem dL_law_336 : decode code 336 = .ok (.istore 5, 2) := by decide +kernel
theorem dL_law_338 : decode code 338 = .ok (.aload_n 2, 1) := by decide +kernel
theorem dL_law_339 : decode code 339 = .ok (.invokevirtual 77, 3) := by decide +kernel
theorem dL_law_342 : decode code 342 = .ok (.aload_n 2, 1) := by decide +kernel
theorem dL_law_343 : decode code 343 = .ok (.invokevirtual 67, 3) := by decide +kernel
theorem dL_law_346 : decode code 346 = .ok (.iload 5, 2) := by decide +kernel
theorem dL_law_348 : decode code 348 = .ok (.if_icmp .eq 5, 3) := by decide +kernel
theorem dL_law_351 : decode code 351 = .ok (.iconst 0, 1) := by decide +kernel
theorem dL_law_352 : decode code 352 = .ok (.ireturn, 1) := by decide +kernel
theorem dL_law_353 : decode code 353 = .ok (.goto 364, 3) := by decide +kernel
theorem dL_law_356 : decode code 356 = .ok (.aload_n 1, 1) := by decide +kernel
theorem dL_law_357 : decode code 357 = .ok (.aload_n 3, 1) := by decide +kernel
theorem dL_law_358 : decode code 358 = .ok (.invokestatic 78, 3) := by decide +kernel
theorem dL_law_361 : decode code 361 = .ok (.istore 5, 2) := by decide +kernel
theorem dL_law_363 : decode code 363 = .ok (.aload_n 2, 1) := by decide +kernel
theorem dL_law_364 : decode code 364 = .ok (.invokevirtual 81, 3) := by decide +kernel
theorem dL_law_367 : decode code 367 = .ok (.istore 6, 2) := by decide +kernel
theorem dL_law_369 : decode code 369 = .ok (.aload_n 2, 1) := by decide +kernel
theorem dL_law_370 : decode code 370 = .ok (.invokevirtual 67, 3) := by decide +kernel
theorem dL_law_373 : decode code 373 = .ok (.iload 5, 2) := by decide +kernel
theorem dL_law_375 : decode code 375 = .ok (.if_icmp .eq 5, 3) := by decide +kernel
theorem dL_law_378 : decode code 378 = .ok (.iconst 0, 1) := by decide +kernel
theorem dL_law_379 : decode code 379 = .ok (.ireturn, 1) := by decide +kernel
theorem dL_law_380 : decode code 380 = .ok (.iload 5, 2) := by decide +kernel
theorem dL_law_382 : decode code 382 = .ok (.ifCond .ne 15, 3) := by decide +kernel
theorem dL_law_385 : decode code 385 = .ok (.aload_n 3, 1) := by decide +kernel
theorem dL_law_386 : decode code 386 = .ok (.iconst 0, 1) := by decide +kernel
theorem dL_law_387 : decode code 387 = .ok (.laload, 1) := by decide +kernel
theorem dL_law_388 : decode code 388 = .ok (.iload 6, 2) := by decide +kernel
theorem dL_law_390 : decode code 390 = .ok (.i2l, 1) := by decide +kernel
theorem dL_law_391 : decode code 391 = .ok (.lcmp, 1) := by decide +kernel
theorem dL_law_392 : decode code 392 = .ok (.ifCond .eq 5, 3) := by decide +kernel
theorem dL_law_395 : decode code 395 = .ok (.iconst 0, 1) := by decide +kernel
theorem dL_law_396 : decode code 396 = .ok (.ireturn, 1) := by decide +kernel
theorem dL_law_397 : decode code 397 = .ok (.goto 320, 3) := by decide +kernel
theorem dL_law_400 : decode code 400 = .ok (.aload_n 1, 1) := by decide +kernel
theorem dL_law_401 : decode code 401 = .ok (.aload_n 3, 1) := by decide +kernel
theorem dL_law_402 : decode code 402 = .ok (.invokestatic 82, 3) := by decide +kernel
theorem dL_law_405 : decode code 405 = .ok (.istore 5, 2) := by decide +kernel
theorem dL_law_407 : decode code 407 = .ok (.aload_n 2, 1) := by decide +kernel
theorem dL_law_408 : decode code 408 = .ok (.invokevirtual 84, 3) := by decide +kernel
theorem dL_law_411 : decode code 411 = .ok (.istore 6, 2) := by decide +kernel
theorem dL_law_413 : decode code 413 = .ok (.aload_n 2, 1) := by decide +kernel
theorem dL_law_414 : decode code 414 = .ok (.invokevirtual 67, 3) := by decide +kernel
theorem dL_law_417 : decode code 417 = .ok (.iload 5, 2) := by decide +kernel
theorem dL_law_419 : decode code 419 = .ok (.if_icmp .eq 5, 3) := by decide +kernel
theorem dL_law_422 : decode code 422 = .ok (.iconst 0, 1) := by decide +kernel
theorem dL_law_423 : decode code 423 = .ok (.ireturn, 1) := by decide +kernel
theorem dL_law_424 : decode code 424 = .ok (.iload 5, 2) := by decide +kernel
theorem dL_law_426 : decode code 426 = .ok (.ifCond .ne 15, 3) := by decide +kernel
theorem dL_law_429 : decode code 429 = .ok (.aload_n 3, 1) := by decide +kernel
theorem dL_law_430 : decode code 430 = .ok (.iconst 0, 1) := by decide +kernel
theorem dL_law_431 : decode code 431 = .ok (.laload, 1) := by decide +kernel
theorem dL_law_432 : decode code 432 = .ok (.iload 6, 2) := by decide +kernel
theorem dL_law_434 : decode code 434 = .ok (.i2l, 1) := by decide +kernel
theorem dL_law_435 : decode code 435 = .ok (.lcmp, 1) := by decide +kernel
theorem dL_law_436 : decode code 436 = .ok (.ifCond .eq 5, 3) := by decide +kernel
theorem dL_law_439 : decode code 439 = .ok (.iconst 0, 1) := by decide +kernel
theorem dL_law_440 : decode code 440 = .ok (.ireturn, 1) := by decide +kernel
theorem dL_law_441 : decode code 441 = .ok (.goto 276, 3) := by decide +kernel
theorem dL_law_444 : decode code 444 = .ok (.aload_n 1, 1) := by decide +kernel
theorem dL_law_445 : decode code 445 = .ok (.aload_n 3, 1) := by decide +kernel
theorem dL_law_446 : decode code 446 = .ok (.invokestatic 85, 3) := by decide +kernel
theorem dL_law_449 : decode code 449 = .ok (.istore 5, 2) := by decide +kernel
theorem dL_law_451 : decode code 451 = .ok (.aload_n 2, 1) := by decide +kernel
theorem dL_law_452 : decode code 452 = .ok (.invokevirtual 87, 3) := by decide +kernel
theorem dL_law_455 : decode code 455 = .ok (.istore 6, 2) := by decide +kernel
theorem dL_law_457 : decode code 457 = .ok (.aload_n 2, 1) := by decide +kernel
theorem dL_law_458 : decode code 458 = .ok (.invokevirtual 67, 3) := by decide +kernel
theorem dL_law_461 : decode code 461 = .ok (.iload 5, 2) := by decide +kernel
theorem dL_law_463 : decode code 463 = .ok (.if_icmp .eq 5, 3) := by decide +kernel
theorem dL_law_466 : decode code 466 = .ok (.iconst 0, 1) := by decide +kernel
theorem dL_law_467 : decode code 467 = .ok (.ireturn, 1) := by decide +kernel
theorem dL_law_468 : decode code 468 = .ok (.iload 5, 2) := by decide +kernel
theorem dL_law_470 : decode code 470 = .ok (.ifCond .ne 15, 3) := by decide +kernel
theorem dL_law_473 : decode code 473 = .ok (.aload_n 3, 1) := by decide +kernel
theorem dL_law_474 : decode code 474 = .ok (.iconst 0, 1) := by decide +kernel
theorem dL_law_475 : decode code 475 = .ok (.laload, 1) := by decide +kernel
theorem dL_law_476 : decode code 476 = .ok (.iload 6, 2) := by decide +kernel
theorem dL_law_478 : decode code 478 = .ok (.i2l, 1) := by decide +kernel
theorem dL_law_479 : decode code 479 = .ok (.lcmp, 1) := by decide +kernel
theorem dL_law_480 : decode code 480 = .ok (.ifCond .eq 5, 3) := by decide +kernel
theorem dL_law_483 : decode code 483 = .ok (.iconst 0, 1) := by decide +kernel
theorem dL_law_484 : decode code 484 = .ok (.ireturn, 1) := by decide +kernel
theorem dL_law_485 : decode code 485 = .ok (.goto 232, 3) := by decide +kernel
theorem dL_law_488 : decode code 488 = .ok (.aload_n 1, 1) := by decide +kernel
theorem dL_law_489 : decode code 489 = .ok (.aload_n 0, 1) := by decide +kernel
theorem dL_law_490 : decode code 490 = .ok (.iload 4, 2) := by decide +kernel
theorem dL_law_492 : decode code 492 = .ok (.iconst 1, 1) := by decide +kernel
theorem dL_law_493 : decode code 493 = .ok (.iadd, 1) := by decide +kernel
theorem dL_law_494 : decode code 494 = .ok (.iaload, 1) := by decide +kernel
theorem dL_law_495 : decode code 495 = .ok (.invokestatic 88, 3) := by decide +kernel
theorem dL_law_498 : decode code 498 = .ok (.istore 5, 2) := by decide +kernel
theorem dL_law_500 : decode code 500 = .ok (.aload_n 2, 1) := by decide +kernel
theorem dL_law_501 : decode code 501 = .ok (.aload_n 0, 1) := by decide +kernel
theorem dL_law_502 : decode code 502 = .ok (.iload 4, 2) := by decide +kernel
theorem dL_law_504 : decode code 504 = .ok (.iconst 1, 1) := by decide +kernel
theorem dL_law_505 : decode code 505 = .ok (.iadd, 1) := by decide +kernel
theorem dL_law_506 : decode code 506 = .ok (.iaload, 1) := by decide +kernel
theorem dL_law_507 : decode code 507 = .ok (.invokevirtual 91, 3) := by decide +kernel
theorem dL_law_510 : decode code 510 = .ok (.aload_n 2, 1) := by decide +kernel
theorem dL_law_511 : decode code 511 = .ok (.invokevirtual 67, 3) := by decide +kernel
theorem dL_law_514 : decode code 514 = .ok (.iload 5, 2) := by decide +kernel
theorem dL_law_516 : decode code 516 = .ok (.if_icmp .eq 5, 3) := by decide +kernel
theorem dL_law_519 : decode code 519 = .ok (.iconst 0, 1) := by decide +kernel
theorem dL_law_520 : decode code 520 = .ok (.ireturn, 1) := by decide +kernel
theorem dL_law_521 : decode code 521 = .ok (.goto 196, 3) := by decide +kernel
theorem dL_law_524 : decode code 524 = .ok (.aload_n 1, 1) := by decide +kernel
theorem dL_law_525 : decode code 525 = .ok (.invokevirtual 92, 3) := by decide +kernel
theorem dL_law_528 : decode code 528 = .ok (.aload_n 2, 1) := by decide +kernel
theorem dL_law_529 : decode code 529 = .ok (.invokevirtual 95, 3) := by decide +kernel
theorem dL_law_532 : decode code 532 = .ok (.if_icmp .eq 185, 3) := by decide +kernel
theorem dL_law_535 : decode code 535 = .ok (.iconst 0, 1) := by decide +kernel
theorem dL_law_536 : decode code 536 = .ok (.ireturn, 1) := by decide +kernel
theorem dL_law_537 : decode code 537 = .ok (.aload_n 1, 1) := by decide +kernel
theorem dL_law_538 : decode code 538 = .ok (.invokevirtual 96, 3) := by decide +kernel
theorem dL_law_541 : decode code 541 = .ok (.aload_n 2, 1) := by decide +kernel
theorem dL_law_542 : decode code 542 = .ok (.invokevirtual 100, 3) := by decide +kernel
theorem dL_law_545 : decode code 545 = .ok (.if_icmp .eq 172, 3) := by decide +kernel
theorem dL_law_548 : decode code 548 = .ok (.iconst 0, 1) := by decide +kernel
theorem dL_law_549 : decode code 549 = .ok (.ireturn, 1) := by decide +kernel
theorem dL_law_550 : decode code 550 = .ok (.aload_n 1, 1) := by decide +kernel
theorem dL_law_551 : decode code 551 = .ok (.aload_n 0, 1) := by decide +kernel
theorem dL_law_552 : decode code 552 = .ok (.iload 4, 2) := by decide +kernel
theorem dL_law_554 : decode code 554 = .ok (.iconst 1, 1) := by decide +kernel
theorem dL_law_555 : decode code 555 = .ok (.iadd, 1) := by decide +kernel
theorem dL_law_556 : decode code 556 = .ok (.iaload, 1) := by decide +kernel
theorem dL_law_557 : decode code 557 = .ok (.aload_n 3, 1) := by decide +kernel
theorem dL_law_558 : decode code 558 = .ok (.invokestatic 101, 3) := by decide +kernel
theorem dL_law_561 : decode code 561 = .ok (.istore 5, 2) := by decide +kernel
theorem dL_law_563 : decode code 563 = .ok (.aload_n 2, 1) := by decide +kernel
theorem dL_law_564 : decode code 564 = .ok (.aload_n 0, 1) := by decide +kernel
theorem dL_law_565 : decode code 565 = .ok (.iload 4, 2) := by decide +kernel
theorem dL_law_567 : decode code 567 = .ok (.iconst 1, 1) := by decide +kernel
theorem dL_law_568 : decode code 568 = .ok (.iadd, 1) := by decide +kernel
theorem dL_law_569 : decode code 569 = .ok (.iaload, 1) := by decide +kernel
theorem dL_law_570 : decode code 570 = .ok (.invokevirtual 104, 3) := by decide +kernel
theorem dL_law_573 : decode code 573 = .ok (.lstore 6, 2) := by decide +kernel
theorem dL_law_575 : decode code 575 = .ok (.aload_n 2, 1) := by decide +kernel
theorem dL_law_576 : decode code 576 = .ok (.invokevirtual 67, 3) := by decide +kernel
theorem dL_law_579 : decode code 579 = .ok (.iload 5, 2) := by decide +kernel
theorem dL_law_581 : decode code 581 = .ok (.if_icmp .eq 5, 3) := by decide +kernel
theorem dL_law_584 : decode code 584 = .ok (.iconst 0, 1) := by decide +kernel
theorem dL_law_585 : decode code 585 = .ok (.ireturn, 1) := by decide +kernel
theorem dL_law_586 : decode code 586 = .ok (.iload 5, 2) := by decide +kernel
theorem dL_law_588 : decode code 588 = .ok (.ifCond .ne 14, 3) := by decide +kernel
theorem dL_law_591 : decode code 591 = .ok (.aload_n 3, 1) := by decide +kernel
theorem dL_law_592 : decode code 592 = .ok (.iconst 0, 1) := by decide +kernel
theorem dL_law_593 : decode code 593 = .ok (.laload, 1) := by decide +kernel
theorem dL_law_594 : decode code 594 = .ok (.lload 6, 2) := by decide +kernel
theorem dL_law_596 : decode code 596 = .ok (.lcmp, 1) := by decide +kernel
theorem dL_law_597 : decode code 597 = .ok (.ifCond .eq 5, 3) := by decide +kernel
theorem dL_law_600 : decode code 600 = .ok (.iconst 0, 1) := by decide +kernel
theorem dL_law_601 : decode code 601 = .ok (.ireturn, 1) := by decide +kernel
theorem dL_law_602 : decode code 602 = .ok (.goto 115, 3) := by decide +kernel
theorem dL_law_605 : decode code 605 = .ok (.aload_n 1, 1) := by decide +kernel
theorem dL_law_606 : decode code 606 = .ok (.aload_n 0, 1) := by decide +kernel
theorem dL_law_607 : decode code 607 = .ok (.iload 4, 2) := by decide +kernel
theorem dL_law_609 : decode code 609 = .ok (.iconst 1, 1) := by decide +kernel
theorem dL_law_610 : decode code 610 = .ok (.iadd, 1) := by decide +kernel
theorem dL_law_611 : decode code 611 = .ok (.iaload, 1) := by decide +kernel
theorem dL_law_612 : decode code 612 = .ok (.aload_n 3, 1) := by decide +kernel
theorem dL_law_613 : decode code 613 = .ok (.invokestatic 105, 3) := by decide +kernel
theorem dL_law_616 : decode code 616 = .ok (.istore 5, 2) := by decide +kernel
theorem dL_law_618 : decode code 618 = .ok (.aload_n 2, 1) := by decide +kernel
theorem dL_law_619 : decode code 619 = .ok (.aload_n 0, 1) := by decide +kernel
theorem dL_law_620 : decode code 620 = .ok (.iload 4, 2) := by decide +kernel
theorem dL_law_622 : decode code 622 = .ok (.iconst 1, 1) := by decide +kernel
theorem dL_law_623 : decode code 623 = .ok (.iadd, 1) := by decide +kernel
theorem dL_law_624 : decode code 624 = .ok (.iaload, 1) := by decide +kernel
theorem dL_law_625 : decode code 625 = .ok (.invokevirtual 107, 3) := by decide +kernel
theorem dL_law_628 : decode code 628 = .ok (.istore 6, 2) := by decide +kernel
theorem dL_law_630 : decode code 630 = .ok (.aload_n 2, 1) := by decide +kernel
theorem dL_law_631 : decode code 631 = .ok (.invokevirtual 67, 3) := by decide +kernel
theorem dL_law_634 : decode code 634 = .ok (.iload 5, 2) := by decide +kernel
theorem dL_law_636 : decode code 636 = .ok (.if_icmp .eq 5, 3) := by decide +kernel
theorem dL_law_639 : decode code 639 = .ok (.iconst 0, 1) := by decide +kernel
theorem dL_law_640 : decode code 640 = .ok (.ireturn, 1) := by decide +kernel
theorem dL_law_641 : decode code 641 = .ok (.iload 5, 2) := by decide +kernel
theorem dL_law_643 : decode code 643 = .ok (.ifCond .ne 15, 3) := by decide +kernel
theorem dL_law_646 : decode code 646 = .ok (.aload_n 3, 1) := by decide +kernel
theorem dL_law_647 : decode code 647 = .ok (.iconst 0, 1) := by decide +kernel
theorem dL_law_648 : decode code 648 = .ok (.laload, 1) := by decide +kernel
theorem dL_law_649 : decode code 649 = .ok (.iload 6, 2) := by decide +kernel
theorem dL_law_651 : decode code 651 = .ok (.i2l, 1) := by decide +kernel
theorem dL_law_652 : decode code 652 = .ok (.lcmp, 1) := by decide +kernel
theorem dL_law_653 : decode code 653 = .ok (.ifCond .eq 5, 3) := by decide +kernel
theorem dL_law_656 : decode code 656 = .ok (.iconst 0, 1) := by decide +kernel
theorem dL_law_657 : decode code 657 = .ok (.ireturn, 1) := by decide +kernel
theorem dL_law_658 : decode code 658 = .ok (.goto 59, 3) := by decide +kernel
theorem dL_law_661 : decode code 661 = .ok (.aload_n 1, 1) := by decide +kernel
theorem dL_law_662 : decode code 662 = .ok (.aload_n 0, 1) := by decide +kernel
theorem dL_law_663 : decode code 663 = .ok (.iload 4, 2) := by decide +kernel
theorem dL_law_665 : decode code 665 = .ok (.iconst 1, 1) := by decide +kernel
theorem dL_law_666 : decode code 666 = .ok (.iadd, 1) := by decide +kernel
theorem dL_law_667 : decode code 667 = .ok (.iaload, 1) := by decide +kernel
theorem dL_law_668 : decode code 668 = .ok (.aload_n 3, 1) := by decide +kernel
theorem dL_law_669 : decode code 669 = .ok (.invokestatic 108, 3) := by decide +kernel
theorem dL_law_672 : decode code 672 = .ok (.istore 5, 2) := by decide +kernel
theorem dL_law_674 : decode code 674 = .ok (.aload_n 2, 1) := by decide +kernel
theorem dL_law_675 : decode code 675 = .ok (.aload_n 0, 1) := by decide +kernel
theorem dL_law_676 : decode code 676 = .ok (.iload 4, 2) := by decide +kernel
theorem dL_law_678 : decode code 678 = .ok (.iconst 1, 1) := by decide +kernel
theorem dL_law_679 : decode code 679 = .ok (.iadd, 1) := by decide +kernel
theorem dL_law_680 : decode code 680 = .ok (.iaload, 1) := by decide +kernel
theorem dL_law_681 : decode code 681 = .ok (.invokevirtual 110, 3) := by decide +kernel
theorem dL_law_684 : decode code 684 = .ok (.istore 6, 2) := by decide +kernel
theorem dL_law_686 : decode code 686 = .ok (.aload_n 2, 1) := by decide +kernel
theorem dL_law_687 : decode code 687 = .ok (.invokevirtual 67, 3) := by decide +kernel
theorem dL_law_690 : decode code 690 = .ok (.iload 5, 2) := by decide +kernel
theorem dL_law_692 : decode code 692 = .ok (.if_icmp .eq 5, 3) := by decide +kernel
theorem dL_law_695 : decode code 695 = .ok (.iconst 0, 1) := by decide +kernel
theorem dL_law_696 : decode code 696 = .ok (.ireturn, 1) := by decide +kernel
theorem dL_law_697 : decode code 697 = .ok (.iload 5, 2) := by decide +kernel
theorem dL_law_699 : decode code 699 = .ok (.ifCond .ne 15, 3) := by decide +kernel
theorem dL_law_702 : decode code 702 = .ok (.aload_n 3, 1) := by decide +kernel
theorem dL_law_703 : decode code 703 = .ok (.iconst 0, 1) := by decide +kernel
theorem dL_law_704 : decode code 704 = .ok (.laload, 1) := by decide +kernel
theorem dL_law_705 : decode code 705 = .ok (.iload 6, 2) := by decide +kernel
theorem dL_law_707 : decode code 707 = .ok (.i2l, 1) := by decide +kernel
theorem dL_law_708 : decode code 708 = .ok (.lcmp, 1) := by decide +kernel
theorem dL_law_709 : decode code 709 = .ok (.ifCond .eq 5, 3) := by decide +kernel
theorem dL_law_712 : decode code 712 = .ok (.iconst 0, 1) := by decide +kernel
theorem dL_law_713 : decode code 713 = .ok (.ireturn, 1) := by decide +kernel
theorem dL_law_714 : decode code 714 = .ok (.goto 3, 3) := by decide +kernel
theorem dL_law_717 : decode code 717 = .ok (.iinc 4 5, 3) := by decide +kernel
theorem dL_law_720 : decode code 720 = .ok (.goto (-677), 3) := by decide +kernel
theorem dL_law_723 : decode code 723 = .ok (.iconst 1, 1) := by decide +kernel
theorem dL_law_724 : decode code 724 = .ok (.ireturn, 1) := by decide +kernel
