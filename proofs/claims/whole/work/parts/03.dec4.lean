theorem dX11_steps_186 : decode cX11_steps 186 = .ok (.bipush 100, 2) := by decide +kernel
theorem dX11_steps_188 : decode cX11_steps 188 = .ok (.idiv, 1) := by decide +kernel
theorem dX11_steps_189 : decode cX11_steps 189 = .ok (.invokevirtual 133, 3) := by decide +kernel
theorem dX11_steps_192 : decode cX11_steps 192 = .ok (.imul, 1) := by decide +kernel
theorem dX11_steps_193 : decode cX11_steps 193 = .ok (.sipush 1000, 3) := by decide +kernel
theorem dX11_steps_196 : decode cX11_steps 196 = .ok (.idiv, 1) := by decide +kernel
theorem dX11_steps_197 : decode cX11_steps 197 = .ok (.iadd, 1) := by decide +kernel
theorem dX11_steps_198 : decode cX11_steps 198 = .ok (.iastore, 1) := by decide +kernel
theorem dX11_steps_199 : decode cX11_steps 199 = .ok (.iload_n 3, 1) := by decide +kernel
theorem dX11_steps_200 : decode cX11_steps 200 = .ok (.ifCond .lt 122, 3) := by decide +kernel
theorem dX11_steps_203 : decode cX11_steps 203 = .ok (.iconst 4, 1) := by decide +kernel
theorem dX11_steps_204 : decode cX11_steps 204 = .ok (.iload_n 3, 1) := by decide +kernel
theorem dX11_steps_205 : decode cX11_steps 205 = .ok (.imul, 1) := by decide +kernel
theorem dX11_steps_206 : decode cX11_steps 206 = .ok (.aload_n 0, 1) := by decide +kernel
theorem dX11_steps_207 : decode cX11_steps 207 = .ok (.getfield 60, 3) := by decide +kernel
theorem dX11_steps_210 : decode cX11_steps 210 = .ok (.iconst 2, 1) := by decide +kernel
theorem dX11_steps_211 : decode cX11_steps 211 = .ok (.iaload, 1) := by decide +kernel
theorem dX11_steps_212 : decode cX11_steps 212 = .ok (.sipush 200, 3) := by decide +kernel
theorem dX11_steps_215 : decode cX11_steps 215 = .ok (.if_icmp .ge 7, 3) := by decide +kernel
theorem dX11_steps_218 : decode cX11_steps 218 = .ok (.iconst 0, 1) := by decide +kernel
theorem dX11_steps_219 : decode cX11_steps 219 = .ok (.goto 36, 3) := by decide +kernel
theorem dX11_steps_222 : decode cX11_steps 222 = .ok (.aload_n 0, 1) := by decide +kernel
theorem dX11_steps_223 : decode cX11_steps 223 = .ok (.getfield 60, 3) := by decide +kernel
theorem dX11_steps_226 : decode cX11_steps 226 = .ok (.iconst 2, 1) := by decide +kernel
theorem dX11_steps_227 : decode cX11_steps 227 = .ok (.iaload, 1) := by decide +kernel
theorem dX11_steps_228 : decode cX11_steps 228 = .ok (.sipush 500, 3) := by decide +kernel
theorem dX11_steps_231 : decode cX11_steps 231 = .ok (.if_icmp .ge 7, 3) := by decide +kernel
theorem dX11_steps_234 : decode cX11_steps 234 = .ok (.iconst 1, 1) := by decide +kernel
theorem dX11_steps_235 : decode cX11_steps 235 = .ok (.goto 20, 3) := by decide +kernel
theorem dX11_steps_238 : decode cX11_steps 238 = .ok (.aload_n 0, 1) := by decide +kernel
theorem dX11_steps_239 : decode cX11_steps 239 = .ok (.getfield 60, 3) := by decide +kernel
theorem dX11_steps_242 : decode cX11_steps 242 = .ok (.iconst 2, 1) := by decide +kernel
theorem dX11_steps_243 : decode cX11_steps 243 = .ok (.iaload, 1) := by decide +kernel
theorem dX11_steps_244 : decode cX11_steps 244 = .ok (.sipush 1000, 3) := by decide +kernel
theorem dX11_steps_247 : decode cX11_steps 247 = .ok (.if_icmp .ge 7, 3) := by decide +kernel
theorem dX11_steps_250 : decode cX11_steps 250 = .ok (.iconst 2, 1) := by decide +kernel
theorem dX11_steps_251 : decode cX11_steps 251 = .ok (.goto 4, 3) := by decide +kernel
theorem dX11_steps_254 : decode cX11_steps 254 = .ok (.iconst 3, 1) := by decide +kernel
theorem dX11_steps_255 : decode cX11_steps 255 = .ok (.iadd, 1) := by decide +kernel
theorem dX11_steps_256 : decode cX11_steps 256 = .ok (.istore 5, 2) := by decide +kernel
theorem dX11_steps_258 : decode cX11_steps 258 = .ok (.aload_n 0, 1) := by decide +kernel
theorem dX11_steps_259 : decode cX11_steps 259 = .ok (.getfield 60, 3) := by decide +kernel
theorem dX11_steps_262 : decode cX11_steps 262 = .ok (.iconst 0, 1) := by decide +kernel
theorem dX11_steps_263 : decode cX11_steps 263 = .ok (.dup2, 1) := by decide +kernel
theorem dX11_steps_264 : decode cX11_steps 264 = .ok (.iaload, 1) := by decide +kernel
theorem dX11_steps_265 : decode cX11_steps 265 = .ok (.aload_n 0, 1) := by decide +kernel
theorem dX11_steps_266 : decode cX11_steps 266 = .ok (.getfield 38, 3) := by decide +kernel
theorem dX11_steps_269 : decode cX11_steps 269 = .ok (.iload 5, 2) := by decide +kernel
theorem dX11_steps_271 : decode cX11_steps 271 = .ok (.iaload, 1) := by decide +kernel
theorem dX11_steps_272 : decode cX11_steps 272 = .ok (.aload_n 0, 1) := by decide +kernel
theorem dX11_steps_273 : decode cX11_steps 273 = .ok (.aload_n 0, 1) := by decide +kernel
theorem dX11_steps_274 : decode cX11_steps 274 = .ok (.getfield 41, 3) := by decide +kernel
theorem dX11_steps_277 : decode cX11_steps 277 = .ok (.iload 5, 2) := by decide +kernel
theorem dX11_steps_279 : decode cX11_steps 279 = .ok (.iaload, 1) := by decide +kernel
theorem dX11_steps_280 : decode cX11_steps 280 = .ok (.invokevirtual 123, 3) := by decide +kernel
theorem dX11_steps_283 : decode cX11_steps 283 = .ok (.imul, 1) := by decide +kernel
theorem dX11_steps_284 : decode cX11_steps 284 = .ok (.sipush 1000, 3) := by decide +kernel
theorem dX11_steps_287 : decode cX11_steps 287 = .ok (.idiv, 1) := by decide +kernel
theorem dX11_steps_288 : decode cX11_steps 288 = .ok (.iadd, 1) := by decide +kernel
theorem dX11_steps_289 : decode cX11_steps 289 = .ok (.iastore, 1) := by decide +kernel
theorem dX11_steps_290 : decode cX11_steps 290 = .ok (.aload_n 0, 1) := by decide +kernel
theorem dX11_steps_291 : decode cX11_steps 291 = .ok (.getfield 60, 3) := by decide +kernel
theorem dX11_steps_294 : decode cX11_steps 294 = .ok (.iconst 1, 1) := by decide +kernel
theorem dX11_steps_295 : decode cX11_steps 295 = .ok (.dup2, 1) := by decide +kernel
theorem dX11_steps_296 : decode cX11_steps 296 = .ok (.iaload, 1) := by decide +kernel
theorem dX11_steps_297 : decode cX11_steps 297 = .ok (.aload_n 0, 1) := by decide +kernel
theorem dX11_steps_298 : decode cX11_steps 298 = .ok (.getfield 38, 3) := by decide +kernel
theorem dX11_steps_301 : decode cX11_steps 301 = .ok (.iload 5, 2) := by decide +kernel
theorem dX11_steps_303 : decode cX11_steps 303 = .ok (.iaload, 1) := by decide +kernel
theorem dX11_steps_304 : decode cX11_steps 304 = .ok (.aload_n 0, 1) := by decide +kernel
theorem dX11_steps_305 : decode cX11_steps 305 = .ok (.aload_n 0, 1) := by decide +kernel
theorem dX11_steps_306 : decode cX11_steps 306 = .ok (.getfield 41, 3) := by decide +kernel
theorem dX11_steps_309 : decode cX11_steps 309 = .ok (.iload 5, 2) := by decide +kernel
theorem dX11_steps_311 : decode cX11_steps 311 = .ok (.iaload, 1) := by decide +kernel
theorem dX11_steps_312 : decode cX11_steps 312 = .ok (.invokevirtual 133, 3) := by decide +kernel
theorem dX11_steps_315 : decode cX11_steps 315 = .ok (.imul, 1) := by decide +kernel
theorem dX11_steps_316 : decode cX11_steps 316 = .ok (.sipush 1000, 3) := by decide +kernel
theorem dX11_steps_319 : decode cX11_steps 319 = .ok (.idiv, 1) := by decide +kernel
theorem dX11_steps_320 : decode cX11_steps 320 = .ok (.iadd, 1) := by decide +kernel
theorem dX11_steps_321 : decode cX11_steps 321 = .ok (.iastore, 1) := by decide +kernel
theorem dX11_steps_322 : decode cX11_steps 322 = .ok (.aload_n 0, 1) := by decide +kernel
theorem dX11_steps_323 : decode cX11_steps 323 = .ok (.getfield 60, 3) := by decide +kernel
theorem dX11_steps_326 : decode cX11_steps 326 = .ok (.bipush 6, 2) := by decide +kernel
theorem dX11_steps_328 : decode cX11_steps 328 = .ok (.aload_n 0, 1) := by decide +kernel
theorem dX11_steps_329 : decode cX11_steps 329 = .ok (.getfield 60, 3) := by decide +kernel
theorem dX11_steps_332 : decode cX11_steps 332 = .ok (.bipush 6, 2) := by decide +kernel
theorem dX11_steps_334 : decode cX11_steps 334 = .ok (.iaload, 1) := by decide +kernel
theorem dX11_steps_335 : decode cX11_steps 335 = .ok (.aload_n 0, 1) := by decide +kernel
theorem dX11_steps_336 : decode cX11_steps 336 = .ok (.getfield 22, 3) := by decide +kernel
theorem dX11_steps_339 : decode cX11_steps 339 = .ok (.iload_n 1, 1) := by decide +kernel
theorem dX11_steps_340 : decode cX11_steps 340 = .ok (.iaload, 1) := by decide +kernel
theorem dX11_steps_341 : decode cX11_steps 341 = .ok (.isub, 1) := by decide +kernel
theorem dX11_steps_342 : decode cX11_steps 342 = .ok (.iconst 0, 1) := by decide +kernel
theorem dX11_steps_343 : decode cX11_steps 343 = .ok (.sipush 1000, 3) := by decide +kernel
theorem dX11_steps_346 : decode cX11_steps 346 = .ok (.invokestatic 195, 3) := by decide +kernel
theorem dX11_steps_349 : decode cX11_steps 349 = .ok (.iastore, 1) := by decide +kernel
theorem dX11_steps_350 : decode cX11_steps 350 = .ok (.aload_n 0, 1) := by decide +kernel
theorem dX11_steps_351 : decode cX11_steps 351 = .ok (.getfield 60, 3) := by decide +kernel
theorem dX11_steps_354 : decode cX11_steps 354 = .ok (.iconst 5, 1) := by decide +kernel
theorem dX11_steps_355 : decode cX11_steps 355 = .ok (.aload_n 0, 1) := by decide +kernel
theorem dX11_steps_356 : decode cX11_steps 356 = .ok (.getfield 60, 3) := by decide +kernel
theorem dX11_steps_359 : decode cX11_steps 359 = .ok (.iconst 5, 1) := by decide +kernel
theorem dX11_steps_360 : decode cX11_steps 360 = .ok (.iaload, 1) := by decide +kernel
theorem dX11_steps_361 : decode cX11_steps 361 = .ok (.aload_n 0, 1) := by decide +kernel
theorem dX11_steps_362 : decode cX11_steps 362 = .ok (.getfield 25, 3) := by decide +kernel
theorem dX11_steps_365 : decode cX11_steps 365 = .ok (.iload_n 1, 1) := by decide +kernel
theorem dX11_steps_366 : decode cX11_steps 366 = .ok (.iaload, 1) := by decide +kernel
theorem dX11_steps_367 : decode cX11_steps 367 = .ok (.isub, 1) := by decide +kernel
theorem dX11_steps_368 : decode cX11_steps 368 = .ok (.bipush 20, 2) := by decide +kernel
theorem dX11_steps_370 : decode cX11_steps 370 = .ok (.sipush 250, 3) := by decide +kernel
theorem dX11_steps_373 : decode cX11_steps 373 = .ok (.invokestatic 195, 3) := by decide +kernel
theorem dX11_steps_376 : decode cX11_steps 376 = .ok (.iastore, 1) := by decide +kernel
theorem dX11_steps_377 : decode cX11_steps 377 = .ok (.aload_n 0, 1) := by decide +kernel
theorem dX11_steps_378 : decode cX11_steps 378 = .ok (.getfield 60, 3) := by decide +kernel
theorem dX11_steps_381 : decode cX11_steps 381 = .ok (.bipush 7, 2) := by decide +kernel
theorem dX11_steps_383 : decode cX11_steps 383 = .ok (.aload_n 0, 1) := by decide +kernel
theorem dX11_steps_384 : decode cX11_steps 384 = .ok (.getfield 189, 3) := by decide +kernel
theorem dX11_steps_387 : decode cX11_steps 387 = .ok (.iconst 4, 1) := by decide +kernel
theorem dX11_steps_388 : decode cX11_steps 388 = .ok (.irem, 1) := by decide +kernel
theorem dX11_steps_389 : decode cX11_steps 389 = .ok (.ifCond .ne 21, 3) := by decide +kernel
theorem dX11_steps_392 : decode cX11_steps 392 = .ok (.aload_n 0, 1) := by decide +kernel
theorem dX11_steps_393 : decode cX11_steps 393 = .ok (.getfield 60, 3) := by decide +kernel
theorem dX11_steps_396 : decode cX11_steps 396 = .ok (.bipush 7, 2) := by decide +kernel
theorem dX11_steps_398 : decode cX11_steps 398 = .ok (.iaload, 1) := by decide +kernel
theorem dX11_steps_399 : decode cX11_steps 399 = .ok (.iconst 1, 1) := by decide +kernel
theorem dX11_steps_400 : decode cX11_steps 400 = .ok (.isub, 1) := by decide +kernel
theorem dX11_steps_401 : decode cX11_steps 401 = .ok (.iconst 0, 1) := by decide +kernel
theorem dX11_steps_402 : decode cX11_steps 402 = .ok (.bipush 90, 2) := by decide +kernel
theorem dX11_steps_404 : decode cX11_steps 404 = .ok (.invokestatic 195, 3) := by decide +kernel
theorem dX11_steps_407 : decode cX11_steps 407 = .ok (.goto 10, 3) := by decide +kernel
theorem dX11_steps_410 : decode cX11_steps 410 = .ok (.aload_n 0, 1) := by decide +kernel
theorem dX11_steps_411 : decode cX11_steps 411 = .ok (.getfield 60, 3) := by decide +kernel
theorem dX11_steps_414 : decode cX11_steps 414 = .ok (.bipush 7, 2) := by decide +kernel
theorem dX11_steps_416 : decode cX11_steps 416 = .ok (.iaload, 1) := by decide +kernel
theorem dX11_steps_417 : decode cX11_steps 417 = .ok (.iastore, 1) := by decide +kernel
theorem dX11_steps_418 : decode cX11_steps 418 = .ok (.return_, 1) := by decide +kernel
theorem dX11_isNear_0 : decode cX11_isNear 0 = .ok (.aload_n 0, 1) := by decide +kernel
theorem dX11_isNear_1 : decode cX11_isNear 1 = .ok (.getfield 60, 3) := by decide +kernel
theorem dX11_isNear_4 : decode cX11_isNear 4 = .ok (.iconst 0, 1) := by decide +kernel
theorem dX11_isNear_5 : decode cX11_isNear 5 = .ok (.iaload, 1) := by decide +kernel
theorem dX11_isNear_6 : decode cX11_isNear 6 = .ok (.iload_n 1, 1) := by decide +kernel
theorem dX11_isNear_7 : decode cX11_isNear 7 = .ok (.isub, 1) := by decide +kernel
theorem dX11_isNear_8 : decode cX11_isNear 8 = .ok (.i2l, 1) := by decide +kernel
theorem dX11_isNear_9 : decode cX11_isNear 9 = .ok (.lstore 4, 2) := by decide +kernel
theorem dX11_isNear_11 : decode cX11_isNear 11 = .ok (.aload_n 0, 1) := by decide +kernel
theorem dX11_isNear_12 : decode cX11_isNear 12 = .ok (.getfield 60, 3) := by decide +kernel
theorem dX11_isNear_15 : decode cX11_isNear 15 = .ok (.iconst 1, 1) := by decide +kernel
theorem dX11_isNear_16 : decode cX11_isNear 16 = .ok (.iaload, 1) := by decide +kernel
theorem dX11_isNear_17 : decode cX11_isNear 17 = .ok (.iload_n 2, 1) := by decide +kernel
theorem dX11_isNear_18 : decode cX11_isNear 18 = .ok (.isub, 1) := by decide +kernel
theorem dX11_isNear_19 : decode cX11_isNear 19 = .ok (.i2l, 1) := by decide +kernel
theorem dX11_isNear_20 : decode cX11_isNear 20 = .ok (.lstore 6, 2) := by decide +kernel
theorem dX11_isNear_22 : decode cX11_isNear 22 = .ok (.lload 4, 2) := by decide +kernel
theorem dX11_isNear_24 : decode cX11_isNear 24 = .ok (.lload 4, 2) := by decide +kernel
theorem dX11_isNear_26 : decode cX11_isNear 26 = .ok (.lmul, 1) := by decide +kernel
theorem dX11_isNear_27 : decode cX11_isNear 27 = .ok (.lload 6, 2) := by decide +kernel
theorem dX11_isNear_29 : decode cX11_isNear 29 = .ok (.lload 6, 2) := by decide +kernel
theorem dX11_isNear_31 : decode cX11_isNear 31 = .ok (.lmul, 1) := by decide +kernel
theorem dX11_isNear_32 : decode cX11_isNear 32 = .ok (.ladd, 1) := by decide +kernel
theorem dX11_isNear_33 : decode cX11_isNear 33 = .ok (.iload_n 3, 1) := by decide +kernel
theorem dX11_isNear_34 : decode cX11_isNear 34 = .ok (.i2l, 1) := by decide +kernel
theorem dX11_isNear_35 : decode cX11_isNear 35 = .ok (.iload_n 3, 1) := by decide +kernel
theorem dX11_isNear_36 : decode cX11_isNear 36 = .ok (.i2l, 1) := by decide +kernel
theorem dX11_isNear_37 : decode cX11_isNear 37 = .ok (.lmul, 1) := by decide +kernel
theorem dX11_isNear_38 : decode cX11_isNear 38 = .ok (.lcmp, 1) := by decide +kernel
theorem dX11_isNear_39 : decode cX11_isNear 39 = .ok (.ifCond .gt 7, 3) := by decide +kernel
theorem dX11_isNear_42 : decode cX11_isNear 42 = .ok (.iconst 1, 1) := by decide +kernel
theorem dX11_isNear_43 : decode cX11_isNear 43 = .ok (.goto 4, 3) := by decide +kernel
theorem dX11_isNear_46 : decode cX11_isNear 46 = .ok (.iconst 0, 1) := by decide +kernel
theorem dX11_isNear_47 : decode cX11_isNear 47 = .ok (.ireturn, 1) := by decide +kernel
theorem dX11_ending_0 : decode cX11_ending 0 = .ok (.iconst 0, 1) := by decide +kernel
theorem dX11_ending_1 : decode cX11_ending 1 = .ok (.istore_n 1, 1) := by decide +kernel
theorem dX11_ending_2 : decode cX11_ending 2 = .ok (.iload_n 1, 1) := by decide +kernel
theorem dX11_ending_3 : decode cX11_ending 3 = .ok (.aload_n 0, 1) := by decide +kernel
theorem dX11_ending_4 : decode cX11_ending 4 = .ok (.getfield 180, 3) := by decide +kernel
theorem dX11_ending_7 : decode cX11_ending 7 = .ok (.if_icmp .ge 56, 3) := by decide +kernel
theorem dX11_ending_10 : decode cX11_ending 10 = .ok (.aload_n 0, 1) := by decide +kernel
theorem dX11_ending_11 : decode cX11_ending 11 = .ok (.aload_n 0, 1) := by decide +kernel
theorem dX11_ending_12 : decode cX11_ending 12 = .ok (.getfield 44, 3) := by decide +kernel
theorem dX11_ending_15 : decode cX11_ending 15 = .ok (.iload_n 1, 1) := by decide +kernel
theorem dX11_ending_16 : decode cX11_ending 16 = .ok (.iaload, 1) := by decide +kernel
theorem dX11_ending_17 : decode cX11_ending 17 = .ok (.aload_n 0, 1) := by decide +kernel
theorem dX11_ending_18 : decode cX11_ending 18 = .ok (.getfield 47, 3) := by decide +kernel
theorem dX11_ending_21 : decode cX11_ending 21 = .ok (.iload_n 1, 1) := by decide +kernel
theorem dX11_ending_22 : decode cX11_ending 22 = .ok (.iaload, 1) := by decide +kernel
theorem dX11_ending_23 : decode cX11_ending 23 = .ok (.aload_n 0, 1) := by decide +kernel
theorem dX11_ending_24 : decode cX11_ending 24 = .ok (.getfield 50, 3) := by decide +kernel
theorem dX11_ending_27 : decode cX11_ending 27 = .ok (.iload_n 1, 1) := by decide +kernel
theorem dX11_ending_28 : decode cX11_ending 28 = .ok (.iaload, 1) := by decide +kernel
theorem dX11_ending_29 : decode cX11_ending 29 = .ok (.invokevirtual 201, 3) := by decide +kernel
theorem dX11_ending_32 : decode cX11_ending 32 = .ok (.ifCond .eq 25, 3) := by decide +kernel
theorem dX11_ending_35 : decode cX11_ending 35 = .ok (.aload_n 0, 1) := by decide +kernel
theorem dX11_ending_36 : decode cX11_ending 36 = .ok (.getfield 60, 3) := by decide +kernel
theorem dX11_ending_39 : decode cX11_ending 39 = .ok (.iconst 2, 1) := by decide +kernel
theorem dX11_ending_40 : decode cX11_ending 40 = .ok (.iaload, 1) := by decide +kernel
theorem dX11_ending_41 : decode cX11_ending 41 = .ok (.aload_n 0, 1) := by decide +kernel
theorem dX11_ending_42 : decode cX11_ending 42 = .ok (.getfield 53, 3) := by decide +kernel
theorem dX11_ending_45 : decode cX11_ending 45 = .ok (.iload_n 1, 1) := by decide +kernel
theorem dX11_ending_46 : decode cX11_ending 46 = .ok (.iaload, 1) := by decide +kernel
theorem dX11_ending_47 : decode cX11_ending 47 = .ok (.if_icmp .gt 10, 3) := by decide +kernel
theorem dX11_ending_50 : decode cX11_ending 50 = .ok (.aload_n 0, 1) := by decide +kernel
theorem dX11_ending_51 : decode cX11_ending 51 = .ok (.iload_n 1, 1) := by decide +kernel
theorem dX11_ending_52 : decode cX11_ending 52 = .ok (.putfield 205, 3) := by decide +kernel
theorem dX11_ending_55 : decode cX11_ending 55 = .ok (.iconst 3, 1) := by decide +kernel
theorem dX11_ending_56 : decode cX11_ending 56 = .ok (.ireturn, 1) := by decide +kernel
theorem dX11_ending_57 : decode cX11_ending 57 = .ok (.iinc 1 1, 3) := by decide +kernel
theorem dX11_ending_60 : decode cX11_ending 60 = .ok (.goto (-58), 3) := by decide +kernel
theorem dX11_ending_63 : decode cX11_ending 63 = .ok (.aload_n 0, 1) := by decide +kernel
theorem dX11_ending_64 : decode cX11_ending 64 = .ok (.getfield 60, 3) := by decide +kernel
theorem dX11_ending_67 : decode cX11_ending 67 = .ok (.iconst 2, 1) := by decide +kernel
theorem dX11_ending_68 : decode cX11_ending 68 = .ok (.iaload, 1) := by decide +kernel
theorem dX11_ending_69 : decode cX11_ending 69 = .ok (.ifCond .gt 5, 3) := by decide +kernel
theorem dX11_ending_72 : decode cX11_ending 72 = .ok (.iconst 1, 1) := by decide +kernel
theorem dX11_ending_73 : decode cX11_ending 73 = .ok (.ireturn, 1) := by decide +kernel
theorem dX11_ending_74 : decode cX11_ending 74 = .ok (.aload_n 0, 1) := by decide +kernel
theorem dX11_ending_75 : decode cX11_ending 75 = .ok (.getfield 189, 3) := by decide +kernel
theorem dX11_ending_78 : decode cX11_ending 78 = .ok (.bipush 20, 2) := by decide +kernel
theorem dX11_ending_80 : decode cX11_ending 80 = .ok (.if_icmp .lt 39, 3) := by decide +kernel
theorem dX11_ending_83 : decode cX11_ending 83 = .ok (.aload_n 0, 1) := by decide +kernel
theorem dX11_ending_84 : decode cX11_ending 84 = .ok (.iconst 0, 1) := by decide +kernel
theorem dX11_ending_85 : decode cX11_ending 85 = .ok (.iconst 0, 1) := by decide +kernel
theorem dX11_ending_86 : decode cX11_ending 86 = .ok (.aload_n 0, 1) := by decide +kernel
theorem dX11_ending_87 : decode cX11_ending 87 = .ok (.getfield 56, 3) := by decide +kernel
theorem dX11_ending_90 : decode cX11_ending 90 = .ok (.invokevirtual 201, 3) := by decide +kernel
theorem dX11_ending_93 : decode cX11_ending 93 = .ok (.ifCond .eq 26, 3) := by decide +kernel
theorem dX11_ending_96 : decode cX11_ending 96 = .ok (.aload_n 0, 1) := by decide +kernel
theorem dX11_ending_97 : decode cX11_ending 97 = .ok (.getfield 60, 3) := by decide +kernel
theorem dX11_ending_100 : decode cX11_ending 100 = .ok (.iconst 2, 1) := by decide +kernel
theorem dX11_ending_101 : decode cX11_ending 101 = .ok (.iaload, 1) := by decide +kernel
theorem dX11_ending_102 : decode cX11_ending 102 = .ok (.i2l, 1) := by decide +kernel
theorem dX11_ending_103 : decode cX11_ending 103 = .ok (.ldc2_w 208, 3) := by decide +kernel
theorem dX11_ending_106 : decode cX11_ending 106 = .ok (.ldc2_w 210, 3) := by decide +kernel
theorem dX11_ending_109 : decode cX11_ending 109 = .ok (.invokestatic 127, 3) := by decide +kernel
theorem dX11_ending_112 : decode cX11_ending 112 = .ok (.ifCond .eq 7, 3) := by decide +kernel
theorem dX11_ending_115 : decode cX11_ending 115 = .ok (.iconst 2, 1) := by decide +kernel
theorem dX11_ending_116 : decode cX11_ending 116 = .ok (.goto 18, 3) := by decide +kernel
theorem dX11_ending_119 : decode cX11_ending 119 = .ok (.aload_n 0, 1) := by decide +kernel
theorem dX11_ending_120 : decode cX11_ending 120 = .ok (.getfield 189, 3) := by decide +kernel
theorem dX11_ending_123 : decode cX11_ending 123 = .ok (.sipush 400, 3) := by decide +kernel
theorem dX11_ending_126 : decode cX11_ending 126 = .ok (.if_icmp .ne 7, 3) := by decide +kernel
theorem dX11_ending_129 : decode cX11_ending 129 = .ok (.iconst 4, 1) := by decide +kernel
theorem dX11_ending_130 : decode cX11_ending 130 = .ok (.goto 4, 3) := by decide +kernel
theorem dX11_ending_133 : decode cX11_ending 133 = .ok (.iconst 0, 1) := by decide +kernel
theorem dX11_ending_134 : decode cX11_ending 134 = .ok (.ireturn, 1) := by decide +kernel
theorem dX11_flies_0 : decode cX11_flies 0 = .ok (.aload_n 0, 1) := by decide +kernel
theorem dX11_flies_1 : decode cX11_flies 1 = .ok (.getfield 60, 3) := by decide +kernel
theorem dX11_flies_4 : decode cX11_flies 4 = .ok (.iconst 0, 1) := by decide +kernel
theorem dX11_flies_5 : decode cX11_flies 5 = .ok (.iconst 0, 1) := by decide +kernel
theorem dX11_flies_6 : decode cX11_flies 6 = .ok (.iastore, 1) := by decide +kernel
theorem dX11_flies_7 : decode cX11_flies 7 = .ok (.aload_n 0, 1) := by decide +kernel
theorem dX11_flies_8 : decode cX11_flies 8 = .ok (.getfield 60, 3) := by decide +kernel
theorem dX11_flies_11 : decode cX11_flies 11 = .ok (.iconst 1, 1) := by decide +kernel
theorem dX11_flies_12 : decode cX11_flies 12 = .ok (.iconst 0, 1) := by decide +kernel
theorem dX11_flies_13 : decode cX11_flies 13 = .ok (.iastore, 1) := by decide +kernel
theorem dX11_flies_14 : decode cX11_flies 14 = .ok (.aload_n 0, 1) := by decide +kernel
theorem dX11_flies_15 : decode cX11_flies 15 = .ok (.getfield 60, 3) := by decide +kernel
theorem dX11_flies_18 : decode cX11_flies 18 = .ok (.iconst 2, 1) := by decide +kernel
theorem dX11_flies_19 : decode cX11_flies 19 = .ok (.sipush 150, 3) := by decide +kernel
theorem dX11_flies_22 : decode cX11_flies 22 = .ok (.iastore, 1) := by decide +kernel
theorem dX11_flies_23 : decode cX11_flies 23 = .ok (.aload_n 0, 1) := by decide +kernel
theorem dX11_flies_24 : decode cX11_flies 24 = .ok (.getfield 60, 3) := by decide +kernel
theorem dX11_flies_27 : decode cX11_flies 27 = .ok (.iconst 3, 1) := by decide +kernel
theorem dX11_flies_28 : decode cX11_flies 28 = .ok (.iconst 0, 1) := by decide +kernel
theorem dX11_flies_29 : decode cX11_flies 29 = .ok (.iastore, 1) := by decide +kernel
theorem dX11_flies_30 : decode cX11_flies 30 = .ok (.aload_n 0, 1) := by decide +kernel
theorem dX11_flies_31 : decode cX11_flies 31 = .ok (.getfield 60, 3) := by decide +kernel
theorem dX11_flies_34 : decode cX11_flies 34 = .ok (.iconst 4, 1) := by decide +kernel
theorem dX11_flies_35 : decode cX11_flies 35 = .ok (.bipush 100, 2) := by decide +kernel
theorem dX11_flies_37 : decode cX11_flies 37 = .ok (.iload 4, 2) := by decide +kernel
theorem dX11_flies_39 : decode cX11_flies 39 = .ok (.imul, 1) := by decide +kernel
theorem dX11_flies_40 : decode cX11_flies 40 = .ok (.iastore, 1) := by decide +kernel
theorem dX11_flies_41 : decode cX11_flies 41 = .ok (.aload_n 0, 1) := by decide +kernel
theorem dX11_flies_42 : decode cX11_flies 42 = .ok (.getfield 60, 3) := by decide +kernel
theorem dX11_flies_45 : decode cX11_flies 45 = .ok (.iconst 5, 1) := by decide +kernel
theorem dX11_flies_46 : decode cX11_flies 46 = .ok (.iload 5, 2) := by decide +kernel
theorem dX11_flies_48 : decode cX11_flies 48 = .ok (.iastore, 1) := by decide +kernel
theorem dX11_flies_49 : decode cX11_flies 49 = .ok (.aload_n 0, 1) := by decide +kernel
theorem dX11_flies_50 : decode cX11_flies 50 = .ok (.getfield 60, 3) := by decide +kernel
theorem dX11_flies_53 : decode cX11_flies 53 = .ok (.bipush 6, 2) := by decide +kernel
theorem dX11_flies_55 : decode cX11_flies 55 = .ok (.iload 6, 2) := by decide +kernel
theorem dX11_flies_57 : decode cX11_flies 57 = .ok (.iastore, 1) := by decide +kernel
theorem dX11_flies_58 : decode cX11_flies 58 = .ok (.aload_n 0, 1) := by decide +kernel
theorem dX11_flies_59 : decode cX11_flies 59 = .ok (.getfield 60, 3) := by decide +kernel
theorem dX11_flies_62 : decode cX11_flies 62 = .ok (.bipush 7, 2) := by decide +kernel
theorem dX11_flies_64 : decode cX11_flies 64 = .ok (.iload_n 3, 1) := by decide +kernel
theorem dX11_flies_65 : decode cX11_flies 65 = .ok (.iastore, 1) := by decide +kernel
theorem dX11_flies_66 : decode cX11_flies 66 = .ok (.aload_n 0, 1) := by decide +kernel
theorem dX11_flies_67 : decode cX11_flies 67 = .ok (.iconst 0, 1) := by decide +kernel
theorem dX11_flies_68 : decode cX11_flies 68 = .ok (.putfield 189, 3) := by decide +kernel
theorem dX11_flies_71 : decode cX11_flies 71 = .ok (.aload_n 0, 1) := by decide +kernel
theorem dX11_flies_72 : decode cX11_flies 72 = .ok (.bipush (-4), 2) := by decide +kernel
theorem dX11_flies_74 : decode cX11_flies 74 = .ok (.putfield 205, 3) := by decide +kernel
theorem dX11_flies_77 : decode cX11_flies 77 = .ok (.aload_n 0, 1) := by decide +kernel
theorem dX11_flies_78 : decode cX11_flies 78 = .ok (.invokevirtual 212, 3) := by decide +kernel
theorem dX11_flies_81 : decode cX11_flies 81 = .ok (.iconst 0, 1) := by decide +kernel
theorem dX11_flies_82 : decode cX11_flies 82 = .ok (.istore 8, 2) := by decide +kernel
theorem dX11_flies_84 : decode cX11_flies 84 = .ok (.iload 8, 2) := by decide +kernel
theorem dX11_flies_86 : decode cX11_flies 86 = .ok (.ifCond .ne 24, 3) := by decide +kernel
theorem dX11_flies_89 : decode cX11_flies 89 = .ok (.aload_n 0, 1) := by decide +kernel
theorem dX11_flies_90 : decode cX11_flies 90 = .ok (.iload_n 1, 1) := by decide +kernel
theorem dX11_flies_91 : decode cX11_flies 91 = .ok (.iload_n 2, 1) := by decide +kernel
theorem dX11_flies_92 : decode cX11_flies 92 = .ok (.iload 7, 2) := by decide +kernel
theorem dX11_flies_94 : decode cX11_flies 94 = .ok (.invokevirtual 215, 3) := by decide +kernel
theorem dX11_flies_97 : decode cX11_flies 97 = .ok (.aload_n 0, 1) := by decide +kernel
theorem dX11_flies_98 : decode cX11_flies 98 = .ok (.invokevirtual 212, 3) := by decide +kernel
theorem dX11_flies_101 : decode cX11_flies 101 = .ok (.aload_n 0, 1) := by decide +kernel
theorem dX11_flies_102 : decode cX11_flies 102 = .ok (.invokevirtual 219, 3) := by decide +kernel
theorem dX11_flies_105 : decode cX11_flies 105 = .ok (.istore 8, 2) := by decide +kernel
theorem dX11_flies_107 : decode cX11_flies 107 = .ok (.goto (-23), 3) := by decide +kernel
theorem dX11_flies_110 : decode cX11_flies 110 = .ok (.iload 8, 2) := by decide +kernel
theorem dX11_flies_112 : decode cX11_flies 112 = .ok (.ireturn, 1) := by decide +kernel
theorem dX11_isThrow_0 : decode cX11_isThrow 0 = .ok (.lload_n 1, 1) := by decide +kernel
theorem dX11_isThrow_1 : decode cX11_isThrow 1 = .ok (.lconst 0, 1) := by decide +kernel
theorem dX11_isThrow_2 : decode cX11_isThrow 2 = .ok (.aload_n 0, 1) := by decide +kernel
theorem dX11_isThrow_3 : decode cX11_isThrow 3 = .ok (.getfield 144, 3) := by decide +kernel
theorem dX11_isThrow_6 : decode cX11_isThrow 6 = .ok (.iconst 1, 1) := by decide +kernel
theorem dX11_isThrow_7 : decode cX11_isThrow 7 = .ok (.isub, 1) := by decide +kernel
theorem dX11_isThrow_8 : decode cX11_isThrow 8 = .ok (.i2l, 1) := by decide +kernel
theorem dX11_isThrow_9 : decode cX11_isThrow 9 = .ok (.invokestatic 127, 3) := by decide +kernel
theorem dX11_isThrow_12 : decode cX11_isThrow 12 = .ok (.ifCond .eq 58, 3) := by decide +kernel
theorem dX11_isThrow_15 : decode cX11_isThrow 15 = .ok (.lload_n 3, 1) := by decide +kernel
theorem dX11_isThrow_16 : decode cX11_isThrow 16 = .ok (.lconst 0, 1) := by decide +kernel
theorem dX11_isThrow_17 : decode cX11_isThrow 17 = .ok (.ldc2_w 223, 3) := by decide +kernel
theorem dX11_isThrow_20 : decode cX11_isThrow 20 = .ok (.invokestatic 127, 3) := by decide +kernel
theorem dX11_isThrow_23 : decode cX11_isThrow 23 = .ok (.ifCond .eq 47, 3) := by decide +kernel
theorem dX11_isThrow_26 : decode cX11_isThrow 26 = .ok (.lload 5, 2) := by decide +kernel
theorem dX11_isThrow_28 : decode cX11_isThrow 28 = .ok (.lconst 0, 1) := by decide +kernel
theorem dX11_isThrow_29 : decode cX11_isThrow 29 = .ok (.ldc2_w 131, 3) := by decide +kernel
theorem dX11_isThrow_32 : decode cX11_isThrow 32 = .ok (.invokestatic 127, 3) := by decide +kernel
theorem dX11_isThrow_35 : decode cX11_isThrow 35 = .ok (.ifCond .eq 35, 3) := by decide +kernel
theorem dX11_isThrow_38 : decode cX11_isThrow 38 = .ok (.lload 7, 2) := by decide +kernel
theorem dX11_isThrow_40 : decode cX11_isThrow 40 = .ok (.ldc2_w 225, 3) := by decide +kernel
theorem dX11_isThrow_43 : decode cX11_isThrow 43 = .ok (.ldc2_w 210, 3) := by decide +kernel
theorem dX11_isThrow_46 : decode cX11_isThrow 46 = .ok (.invokestatic 127, 3) := by decide +kernel
theorem dX11_isThrow_49 : decode cX11_isThrow 49 = .ok (.ifCond .eq 21, 3) := by decide +kernel
theorem dX11_isThrow_52 : decode cX11_isThrow 52 = .ok (.lload 9, 2) := by decide +kernel
theorem dX11_isThrow_54 : decode cX11_isThrow 54 = .ok (.ldc2_w 136, 3) := by decide +kernel
theorem dX11_isThrow_57 : decode cX11_isThrow 57 = .ok (.ldc2_w 227, 3) := by decide +kernel
theorem dX11_isThrow_60 : decode cX11_isThrow 60 = .ok (.invokestatic 127, 3) := by decide +kernel
theorem dX11_isThrow_63 : decode cX11_isThrow 63 = .ok (.ifCond .eq 7, 3) := by decide +kernel
theorem dX11_isThrow_66 : decode cX11_isThrow 66 = .ok (.iconst 1, 1) := by decide +kernel
theorem dX11_isThrow_67 : decode cX11_isThrow 67 = .ok (.goto 4, 3) := by decide +kernel
theorem dX11_isThrow_70 : decode cX11_isThrow 70 = .ok (.iconst 0, 1) := by decide +kernel
theorem dX11_isThrow_71 : decode cX11_isThrow 71 = .ok (.ireturn, 1) := by decide +kernel
theorem dX11_fly_0 : decode cX11_fly 0 = .ok (.aload_n 0, 1) := by decide +kernel
theorem dX11_fly_1 : decode cX11_fly 1 = .ok (.iload_n 1, 1) := by decide +kernel
theorem dX11_fly_2 : decode cX11_fly 2 = .ok (.i2l, 1) := by decide +kernel
theorem dX11_fly_3 : decode cX11_fly 3 = .ok (.iload_n 2, 1) := by decide +kernel
theorem dX11_fly_4 : decode cX11_fly 4 = .ok (.i2l, 1) := by decide +kernel
theorem dX11_fly_5 : decode cX11_fly 5 = .ok (.iload_n 3, 1) := by decide +kernel
theorem dX11_fly_6 : decode cX11_fly 6 = .ok (.i2l, 1) := by decide +kernel
theorem dX11_fly_7 : decode cX11_fly 7 = .ok (.iload 4, 2) := by decide +kernel
theorem dX11_fly_9 : decode cX11_fly 9 = .ok (.i2l, 1) := by decide +kernel
theorem dX11_fly_10 : decode cX11_fly 10 = .ok (.iload 5, 2) := by decide +kernel
theorem dX11_fly_12 : decode cX11_fly 12 = .ok (.i2l, 1) := by decide +kernel
theorem dX11_fly_13 : decode cX11_fly 13 = .ok (.invokevirtual 229, 3) := by decide +kernel
theorem dX11_fly_16 : decode cX11_fly 16 = .ok (.ifCond .eq 12, 3) := by decide +kernel
theorem dX11_fly_19 : decode cX11_fly 19 = .ok (.aload_n 0, 1) := by decide +kernel
theorem dX11_fly_20 : decode cX11_fly 20 = .ok (.iload 6, 2) := by decide +kernel
theorem dX11_fly_22 : decode cX11_fly 22 = .ok (.invokevirtual 233, 3) := by decide +kernel
theorem dX11_fly_25 : decode cX11_fly 25 = .ok (.ifCond .ne 5, 3) := by decide +kernel
theorem dX11_fly_28 : decode cX11_fly 28 = .ok (.iconst (-1), 1) := by decide +kernel
theorem dX11_fly_29 : decode cX11_fly 29 = .ok (.ireturn, 1) := by decide +kernel
theorem dX11_fly_30 : decode cX11_fly 30 = .ok (.aload_n 0, 1) := by decide +kernel
theorem dX11_fly_31 : decode cX11_fly 31 = .ok (.iconst 1, 1) := by decide +kernel
theorem dX11_fly_32 : decode cX11_fly 32 = .ok (.putfield 185, 3) := by decide +kernel
theorem dX11_fly_35 : decode cX11_fly 35 = .ok (.aload_n 0, 1) := by decide +kernel
theorem dX11_fly_36 : decode cX11_fly 36 = .ok (.iload_n 1, 1) := by decide +kernel
theorem dX11_fly_37 : decode cX11_fly 37 = .ok (.aload_n 0, 1) := by decide +kernel
theorem dX11_fly_38 : decode cX11_fly 38 = .ok (.getfield 28, 3) := by decide +kernel
theorem dX11_fly_41 : decode cX11_fly 41 = .ok (.iload_n 1, 1) := by decide +kernel
theorem dX11_fly_42 : decode cX11_fly 42 = .ok (.iaload, 1) := by decide +kernel
theorem dX11_fly_43 : decode cX11_fly 43 = .ok (.iload_n 2, 1) := by decide +kernel
theorem dX11_fly_44 : decode cX11_fly 44 = .ok (.iload_n 3, 1) := by decide +kernel
theorem dX11_fly_45 : decode cX11_fly 45 = .ok (.iload 4, 2) := by decide +kernel
theorem dX11_fly_47 : decode cX11_fly 47 = .ok (.iload 5, 2) := by decide +kernel
theorem dX11_fly_49 : decode cX11_fly 49 = .ok (.iload 6, 2) := by decide +kernel
theorem dX11_fly_51 : decode cX11_fly 51 = .ok (.invokevirtual 236, 3) := by decide +kernel
theorem dX11_fly_54 : decode cX11_fly 54 = .ok (.istore 7, 2) := by decide +kernel
theorem dX11_fly_56 : decode cX11_fly 56 = .ok (.aload_n 0, 1) := by decide +kernel
theorem dX11_fly_57 : decode cX11_fly 57 = .ok (.iconst 0, 1) := by decide +kernel
theorem dX11_fly_58 : decode cX11_fly 58 = .ok (.putfield 185, 3) := by decide +kernel
theorem dX11_fly_61 : decode cX11_fly 61 = .ok (.aload_n 0, 1) := by decide +kernel
theorem dX11_fly_62 : decode cX11_fly 62 = .ok (.iconst 1, 1) := by decide +kernel
theorem dX11_fly_63 : decode cX11_fly 63 = .ok (.putfield 240, 3) := by decide +kernel
theorem dX11_fly_66 : decode cX11_fly 66 = .ok (.aload_n 0, 1) := by decide +kernel
theorem dX11_fly_67 : decode cX11_fly 67 = .ok (.aload_n 0, 1) := by decide +kernel
theorem dX11_fly_68 : decode cX11_fly 68 = .ok (.getfield 189, 3) := by decide +kernel
theorem dX11_fly_71 : decode cX11_fly 71 = .ok (.putfield 243, 3) := by decide +kernel
theorem dX11_fly_74 : decode cX11_fly 74 = .ok (.aload_n 0, 1) := by decide +kernel
theorem dX11_fly_75 : decode cX11_fly 75 = .ok (.aload_n 0, 1) := by decide +kernel
theorem dX11_fly_76 : decode cX11_fly 76 = .ok (.getfield 205, 3) := by decide +kernel
theorem dX11_fly_79 : decode cX11_fly 79 = .ok (.putfield 63, 3) := by decide +kernel
theorem dX11_fly_82 : decode cX11_fly 82 = .ok (.iload 7, 2) := by decide +kernel
theorem dX11_fly_84 : decode cX11_fly 84 = .ok (.ireturn, 1) := by decide +kernel
theorem dX11_at_0 : decode cX11_at 0 = .ok (.aload_n 0, 1) := by decide +kernel
theorem dX11_at_1 : decode cX11_at 1 = .ok (.getfield 240, 3) := by decide +kernel
theorem dX11_at_4 : decode cX11_at 4 = .ok (.ifCond .eq 43, 3) := by decide +kernel
theorem dX11_at_7 : decode cX11_at 7 = .ok (.iload_n 1, 1) := by decide +kernel
theorem dX11_at_8 : decode cX11_at 8 = .ok (.i2l, 1) := by decide +kernel
theorem dX11_at_9 : decode cX11_at 9 = .ok (.lconst 0, 1) := by decide +kernel
theorem dX11_at_10 : decode cX11_at 10 = .ok (.aload_n 0, 1) := by decide +kernel
theorem dX11_at_11 : decode cX11_at 11 = .ok (.getfield 243, 3) := by decide +kernel
theorem dX11_at_14 : decode cX11_at 14 = .ok (.i2l, 1) := by decide +kernel
theorem dX11_at_15 : decode cX11_at 15 = .ok (.invokestatic 127, 3) := by decide +kernel
theorem dX11_at_18 : decode cX11_at 18 = .ok (.ifCond .eq 29, 3) := by decide +kernel
theorem dX11_at_21 : decode cX11_at 21 = .ok (.iload_n 2, 1) := by decide +kernel
theorem dX11_at_22 : decode cX11_at 22 = .ok (.i2l, 1) := by decide +kernel
theorem dX11_at_23 : decode cX11_at 23 = .ok (.lconst 0, 1) := by decide +kernel
theorem dX11_at_24 : decode cX11_at 24 = .ok (.ldc2_w 246, 3) := by decide +kernel
theorem dX11_at_27 : decode cX11_at 27 = .ok (.invokestatic 127, 3) := by decide +kernel
theorem dX11_at_30 : decode cX11_at 30 = .ok (.ifCond .eq 17, 3) := by decide +kernel
theorem dX11_at_33 : decode cX11_at 33 = .ok (.aload_n 0, 1) := by decide +kernel
theorem dX11_at_34 : decode cX11_at 34 = .ok (.getfield 66, 3) := by decide +kernel
theorem dX11_at_37 : decode cX11_at 37 = .ok (.bipush 8, 2) := by decide +kernel
theorem dX11_at_39 : decode cX11_at 39 = .ok (.iload_n 1, 1) := by decide +kernel
theorem dX11_at_40 : decode cX11_at 40 = .ok (.imul, 1) := by decide +kernel
theorem dX11_at_41 : decode cX11_at 41 = .ok (.iload_n 2, 1) := by decide +kernel
theorem dX11_at_42 : decode cX11_at 42 = .ok (.iadd, 1) := by decide +kernel
theorem dX11_at_43 : decode cX11_at 43 = .ok (.iaload, 1) := by decide +kernel
theorem dX11_at_44 : decode cX11_at 44 = .ok (.goto 5, 3) := by decide +kernel
theorem dX11_at_47 : decode cX11_at 47 = .ok (.ldc 248, 2) := by decide +kernel
theorem dX11_at_49 : decode cX11_at 49 = .ok (.ireturn, 1) := by decide +kernel
theorem dX11_ticks_0 : decode cX11_ticks 0 = .ok (.aload_n 0, 1) := by decide +kernel
theorem dX11_ticks_1 : decode cX11_ticks 1 = .ok (.getfield 243, 3) := by decide +kernel
theorem dX11_ticks_4 : decode cX11_ticks 4 = .ok (.ireturn, 1) := by decide +kernel
theorem dX11_hit_0 : decode cX11_hit 0 = .ok (.aload_n 0, 1) := by decide +kernel
theorem dX11_hit_1 : decode cX11_hit 1 = .ok (.getfield 63, 3) := by decide +kernel
theorem dX11_hit_4 : decode cX11_hit 4 = .ok (.ireturn, 1) := by decide +kernel
theorem dX11_backs_0 : decode cX11_backs 0 = .ok (.iconst 0, 1) := by decide +kernel
theorem dX11_backs_1 : decode cX11_backs 1 = .ok (.istore 6, 2) := by decide +kernel
theorem dX11_backs_3 : decode cX11_backs 3 = .ok (.iconst 0, 1) := by decide +kernel
theorem dX11_backs_4 : decode cX11_backs 4 = .ok (.istore 7, 2) := by decide +kernel
theorem dX11_backs_6 : decode cX11_backs 6 = .ok (.iload 7, 2) := by decide +kernel
theorem dX11_backs_8 : decode cX11_backs 8 = .ok (.bipush 8, 2) := by decide +kernel
theorem dX11_backs_10 : decode cX11_backs 10 = .ok (.if_icmp .ge 54, 3) := by decide +kernel
theorem dX11_backs_13 : decode cX11_backs 13 = .ok (.iload 6, 2) := by decide +kernel
theorem dX11_backs_15 : decode cX11_backs 15 = .ok (.iload 5, 2) := by decide +kernel
theorem dX11_backs_17 : decode cX11_backs 17 = .ok (.iload 7, 2) := by decide +kernel
theorem dX11_backs_19 : decode cX11_backs 19 = .ok (.ishr, 1) := by decide +kernel
theorem dX11_backs_20 : decode cX11_backs 20 = .ok (.iconst 1, 1) := by decide +kernel
theorem dX11_backs_21 : decode cX11_backs 21 = .ok (.iand, 1) := by decide +kernel
theorem dX11_backs_22 : decode cX11_backs 22 = .ok (.iconst 1, 1) := by decide +kernel
theorem dX11_backs_23 : decode cX11_backs 23 = .ok (.if_icmp .ne 31, 3) := by decide +kernel
theorem dX11_backs_26 : decode cX11_backs 26 = .ok (.aload_n 0, 1) := by decide +kernel
theorem dX11_backs_27 : decode cX11_backs 27 = .ok (.iload_n 1, 1) := by decide +kernel
theorem dX11_backs_28 : decode cX11_backs 28 = .ok (.aload_n 0, 1) := by decide +kernel
theorem dX11_backs_29 : decode cX11_backs 29 = .ok (.getfield 28, 3) := by decide +kernel
theorem dX11_backs_32 : decode cX11_backs 32 = .ok (.iload_n 1, 1) := by decide +kernel
theorem dX11_backs_33 : decode cX11_backs 33 = .ok (.iaload, 1) := by decide +kernel
theorem dX11_backs_34 : decode cX11_backs 34 = .ok (.iload_n 2, 1) := by decide +kernel
theorem dX11_backs_35 : decode cX11_backs 35 = .ok (.iload_n 3, 1) := by decide +kernel
theorem dX11_backs_36 : decode cX11_backs 36 = .ok (.iload 4, 2) := by decide +kernel
theorem dX11_backs_38 : decode cX11_backs 38 = .ok (.sipush 800, 3) := by decide +kernel
theorem dX11_backs_41 : decode cX11_backs 41 = .ok (.iload 7, 2) := by decide +kernel
theorem dX11_backs_43 : decode cX11_backs 43 = .ok (.invokevirtual 236, 3) := by decide +kernel
theorem dX11_backs_46 : decode cX11_backs 46 = .ok (.iconst 2, 1) := by decide +kernel
theorem dX11_backs_47 : decode cX11_backs 47 = .ok (.if_icmp .ne 7, 3) := by decide +kernel
theorem dX11_backs_50 : decode cX11_backs 50 = .ok (.iconst 1, 1) := by decide +kernel
theorem dX11_backs_51 : decode cX11_backs 51 = .ok (.goto 4, 3) := by decide +kernel
theorem dX11_backs_54 : decode cX11_backs 54 = .ok (.iconst 0, 1) := by decide +kernel
theorem dX11_backs_55 : decode cX11_backs 55 = .ok (.iadd, 1) := by decide +kernel
theorem dX11_backs_56 : decode cX11_backs 56 = .ok (.istore 6, 2) := by decide +kernel
theorem dX11_backs_58 : decode cX11_backs 58 = .ok (.iinc 7 1, 3) := by decide +kernel
theorem dX11_backs_61 : decode cX11_backs 61 = .ok (.goto (-55), 3) := by decide +kernel
theorem dX11_backs_64 : decode cX11_backs 64 = .ok (.iload 6, 2) := by decide +kernel
theorem dX11_backs_66 : decode cX11_backs 66 = .ok (.ireturn, 1) := by decide +kernel
theorem dX11_choose_0 : decode cX11_choose 0 = .ok (.iload_n 1, 1) := by decide +kernel
theorem dX11_choose_1 : decode cX11_choose 1 = .ok (.i2l, 1) := by decide +kernel
theorem dX11_choose_2 : decode cX11_choose 2 = .ok (.lconst 1, 1) := by decide +kernel
theorem dX11_choose_3 : decode cX11_choose 3 = .ok (.iconst 1, 1) := by decide +kernel
theorem dX11_choose_4 : decode cX11_choose 4 = .ok (.aload_n 0, 1) := by decide +kernel
theorem dX11_choose_5 : decode cX11_choose 5 = .ok (.getfield 144, 3) := by decide +kernel
theorem dX11_choose_8 : decode cX11_choose 8 = .ok (.ishl, 1) := by decide +kernel
theorem dX11_choose_9 : decode cX11_choose 9 = .ok (.iconst 1, 1) := by decide +kernel
theorem dX11_choose_10 : decode cX11_choose 10 = .ok (.isub, 1) := by decide +kernel
theorem dX11_choose_11 : decode cX11_choose 11 = .ok (.i2l, 1) := by decide +kernel
theorem dX11_choose_12 : decode cX11_choose 12 = .ok (.invokestatic 127, 3) := by decide +kernel
theorem dX11_choose_15 : decode cX11_choose 15 = .ok (.ifCond .eq 21, 3) := by decide +kernel
theorem dX11_choose_18 : decode cX11_choose 18 = .ok (.iload_n 2, 1) := by decide +kernel
theorem dX11_choose_19 : decode cX11_choose 19 = .ok (.i2l, 1) := by decide +kernel
theorem dX11_choose_20 : decode cX11_choose 20 = .ok (.lconst 1, 1) := by decide +kernel
theorem dX11_choose_21 : decode cX11_choose 21 = .ok (.iconst 1, 1) := by decide +kernel
theorem dX11_choose_22 : decode cX11_choose 22 = .ok (.aload_n 0, 1) := by decide +kernel
theorem dX11_choose_23 : decode cX11_choose 23 = .ok (.getfield 165, 3) := by decide +kernel
theorem dX11_choose_26 : decode cX11_choose 26 = .ok (.ishl, 1) := by decide +kernel
theorem dX11_choose_27 : decode cX11_choose 27 = .ok (.iconst 1, 1) := by decide +kernel
theorem dX11_choose_28 : decode cX11_choose 28 = .ok (.isub, 1) := by decide +kernel
theorem dX11_choose_29 : decode cX11_choose 29 = .ok (.i2l, 1) := by decide +kernel
theorem dX11_choose_30 : decode cX11_choose 30 = .ok (.invokestatic 127, 3) := by decide +kernel
theorem dX11_choose_33 : decode cX11_choose 33 = .ok (.ifCond .ne 5, 3) := by decide +kernel
theorem dX11_choose_36 : decode cX11_choose 36 = .ok (.iconst (-1), 1) := by decide +kernel
theorem dX11_choose_37 : decode cX11_choose 37 = .ok (.ireturn, 1) := by decide +kernel
theorem dX11_choose_38 : decode cX11_choose 38 = .ok (.iconst (-1), 1) := by decide +kernel
theorem dX11_choose_39 : decode cX11_choose 39 = .ok (.istore_n 3, 1) := by decide +kernel
theorem dX11_choose_40 : decode cX11_choose 40 = .ok (.iconst 0, 1) := by decide +kernel
theorem dX11_choose_41 : decode cX11_choose 41 = .ok (.istore 4, 2) := by decide +kernel
theorem dX11_choose_43 : decode cX11_choose 43 = .ok (.iload 4, 2) := by decide +kernel
theorem dX11_choose_45 : decode cX11_choose 45 = .ok (.aload_n 0, 1) := by decide +kernel
theorem dX11_choose_46 : decode cX11_choose 46 = .ok (.getfield 144, 3) := by decide +kernel
theorem dX11_choose_49 : decode cX11_choose 49 = .ok (.if_icmp .ge 155, 3) := by decide +kernel
theorem dX11_choose_52 : decode cX11_choose 52 = .ok (.iload_n 1, 1) := by decide +kernel
theorem dX11_choose_53 : decode cX11_choose 53 = .ok (.iload 4, 2) := by decide +kernel
theorem dX11_choose_55 : decode cX11_choose 55 = .ok (.ishr, 1) := by decide +kernel
theorem dX11_choose_56 : decode cX11_choose 56 = .ok (.iconst 1, 1) := by decide +kernel
theorem dX11_choose_57 : decode cX11_choose 57 = .ok (.iand, 1) := by decide +kernel
theorem dX11_choose_58 : decode cX11_choose 58 = .ok (.iconst 1, 1) := by decide +kernel
theorem dX11_choose_59 : decode cX11_choose 59 = .ok (.if_icmp .ne 17, 3) := by decide +kernel
theorem dX11_choose_62 : decode cX11_choose 62 = .ok (.aload_n 0, 1) := by decide +kernel
theorem dX11_choose_63 : decode cX11_choose 63 = .ok (.getfield 34, 3) := by decide +kernel
theorem dX11_choose_66 : decode cX11_choose 66 = .ok (.iload 4, 2) := by decide +kernel
theorem dX11_choose_68 : decode cX11_choose 68 = .ok (.baload, 1) := by decide +kernel
theorem dX11_choose_69 : decode cX11_choose 69 = .ok (.ifCond .ne 7, 3) := by decide +kernel
theorem dX11_choose_72 : decode cX11_choose 72 = .ok (.iconst 1, 1) := by decide +kernel
theorem dX11_choose_73 : decode cX11_choose 73 = .ok (.goto 4, 3) := by decide +kernel
theorem dX11_choose_76 : decode cX11_choose 76 = .ok (.iconst 0, 1) := by decide +kernel
theorem dX11_choose_77 : decode cX11_choose 77 = .ok (.istore 5, 2) := by decide +kernel
theorem dX11_choose_79 : decode cX11_choose 79 = .ok (.iconst 0, 1) := by decide +kernel
theorem dX11_choose_80 : decode cX11_choose 80 = .ok (.istore 6, 2) := by decide +kernel
theorem dX11_choose_82 : decode cX11_choose 82 = .ok (.iload 6, 2) := by decide +kernel
theorem dX11_choose_84 : decode cX11_choose 84 = .ok (.bipush 48, 2) := by decide +kernel
theorem dX11_choose_86 : decode cX11_choose 86 = .ok (.if_icmp .ge 112, 3) := by decide +kernel
theorem dX11_choose_89 : decode cX11_choose 89 = .ok (.iload 5, 2) := by decide +kernel
theorem dX11_choose_91 : decode cX11_choose 91 = .ok (.ifCond .eq 107, 3) := by decide +kernel
theorem dX11_choose_94 : decode cX11_choose 94 = .ok (.bipush 20, 2) := by decide +kernel
theorem dX11_choose_96 : decode cX11_choose 96 = .ok (.bipush 25, 2) := by decide +kernel
theorem dX11_choose_98 : decode cX11_choose 98 = .ok (.iload 6, 2) := by decide +kernel
theorem dX11_choose_100 : decode cX11_choose 100 = .ok (.bipush 16, 2) := by decide +kernel
theorem dX11_choose_102 : decode cX11_choose 102 = .ok (.idiv, 1) := by decide +kernel
theorem dX11_choose_103 : decode cX11_choose 103 = .ok (.imul, 1) := by decide +kernel
theorem dX11_choose_104 : decode cX11_choose 104 = .ok (.iadd, 1) := by decide +kernel
theorem dX11_choose_105 : decode cX11_choose 105 = .ok (.istore 7, 2) := by decide +kernel
theorem dX11_choose_107 : decode cX11_choose 107 = .ok (.bipush 45, 2) := by decide +kernel
theorem dX11_choose_109 : decode cX11_choose 109 = .ok (.iload 6, 2) := by decide +kernel
theorem dX11_choose_111 : decode cX11_choose 111 = .ok (.iconst 2, 1) := by decide +kernel
theorem dX11_choose_112 : decode cX11_choose 112 = .ok (.idiv, 1) := by decide +kernel
theorem dX11_choose_113 : decode cX11_choose 113 = .ok (.bipush 8, 2) := by decide +kernel
theorem dX11_choose_115 : decode cX11_choose 115 = .ok (.irem, 1) := by decide +kernel
theorem dX11_choose_116 : decode cX11_choose 116 = .ok (.imul, 1) := by decide +kernel
theorem dX11_choose_117 : decode cX11_choose 117 = .ok (.istore 8, 2) := by decide +kernel
theorem dX11_choose_119 : decode cX11_choose 119 = .ok (.bipush 80, 2) := by decide +kernel
theorem dX11_choose_121 : decode cX11_choose 121 = .ok (.bipush 80, 2) := by decide +kernel
theorem dX11_choose_123 : decode cX11_choose 123 = .ok (.iload 6, 2) := by decide +kernel
theorem dX11_choose_125 : decode cX11_choose 125 = .ok (.iconst 2, 1) := by decide +kernel
theorem dX11_choose_126 : decode cX11_choose 126 = .ok (.irem, 1) := by decide +kernel
theorem dX11_choose_127 : decode cX11_choose 127 = .ok (.imul, 1) := by decide +kernel
theorem dX11_choose_128 : decode cX11_choose 128 = .ok (.iadd, 1) := by decide +kernel
theorem dX11_choose_129 : decode cX11_choose 129 = .ok (.istore 9, 2) := by decide +kernel
theorem dX11_choose_131 : decode cX11_choose 131 = .ok (.aload_n 0, 1) := by decide +kernel
theorem dX11_choose_132 : decode cX11_choose 132 = .ok (.iload 4, 2) := by decide +kernel
theorem dX11_choose_134 : decode cX11_choose 134 = .ok (.iload 7, 2) := by decide +kernel
theorem dX11_choose_136 : decode cX11_choose 136 = .ok (.iload 8, 2) := by decide +kernel
theorem dX11_choose_138 : decode cX11_choose 138 = .ok (.iload 9, 2) := by decide +kernel
theorem dX11_choose_140 : decode cX11_choose 140 = .ok (.iload_n 2, 1) := by decide +kernel
theorem dX11_choose_141 : decode cX11_choose 141 = .ok (.invokevirtual 249, 3) := by decide +kernel
theorem dX11_choose_144 : decode cX11_choose 144 = .ok (.istore 10, 2) := by decide +kernel
theorem dX11_choose_146 : decode cX11_choose 146 = .ok (.iload 10, 2) := by decide +kernel
theorem dX11_choose_148 : decode cX11_choose 148 = .ok (.iload_n 3, 1) := by decide +kernel
theorem dX11_choose_149 : decode cX11_choose 149 = .ok (.if_icmp .le 43, 3) := by decide +kernel
theorem dX11_choose_152 : decode cX11_choose 152 = .ok (.iload 10, 2) := by decide +kernel
theorem dX11_choose_154 : decode cX11_choose 154 = .ok (.istore_n 3, 1) := by decide +kernel
theorem dX11_choose_155 : decode cX11_choose 155 = .ok (.aload_n 0, 1) := by decide +kernel
theorem dX11_choose_156 : decode cX11_choose 156 = .ok (.getfield 69, 3) := by decide +kernel
theorem dX11_choose_159 : decode cX11_choose 159 = .ok (.iconst 0, 1) := by decide +kernel
theorem dX11_choose_160 : decode cX11_choose 160 = .ok (.iload 4, 2) := by decide +kernel
theorem dX11_choose_162 : decode cX11_choose 162 = .ok (.iastore, 1) := by decide +kernel
theorem dX11_choose_163 : decode cX11_choose 163 = .ok (.aload_n 0, 1) := by decide +kernel
theorem dX11_choose_164 : decode cX11_choose 164 = .ok (.getfield 69, 3) := by decide +kernel
theorem dX11_choose_167 : decode cX11_choose 167 = .ok (.iconst 1, 1) := by decide +kernel
theorem dX11_choose_168 : decode cX11_choose 168 = .ok (.iload 7, 2) := by decide +kernel
theorem dX11_choose_170 : decode cX11_choose 170 = .ok (.iastore, 1) := by decide +kernel
theorem dX11_choose_171 : decode cX11_choose 171 = .ok (.aload_n 0, 1) := by decide +kernel
theorem dX11_choose_172 : decode cX11_choose 172 = .ok (.getfield 69, 3) := by decide +kernel
theorem dX11_choose_175 : decode cX11_choose 175 = .ok (.iconst 2, 1) := by decide +kernel
theorem dX11_choose_176 : decode cX11_choose 176 = .ok (.iload 8, 2) := by decide +kernel
theorem dX11_choose_178 : decode cX11_choose 178 = .ok (.iastore, 1) := by decide +kernel
theorem dX11_choose_179 : decode cX11_choose 179 = .ok (.aload_n 0, 1) := by decide +kernel
theorem dX11_choose_180 : decode cX11_choose 180 = .ok (.getfield 69, 3) := by decide +kernel
theorem dX11_choose_183 : decode cX11_choose 183 = .ok (.iconst 3, 1) := by decide +kernel
theorem dX11_choose_184 : decode cX11_choose 184 = .ok (.iload 9, 2) := by decide +kernel
theorem dX11_choose_186 : decode cX11_choose 186 = .ok (.iastore, 1) := by decide +kernel
theorem dX11_choose_187 : decode cX11_choose 187 = .ok (.aload_n 0, 1) := by decide +kernel
theorem dX11_choose_188 : decode cX11_choose 188 = .ok (.iconst 1, 1) := by decide +kernel
theorem dX11_choose_189 : decode cX11_choose 189 = .ok (.putfield 252, 3) := by decide +kernel
theorem dX11_choose_192 : decode cX11_choose 192 = .ok (.iinc 6 1, 3) := by decide +kernel
theorem dX11_choose_195 : decode cX11_choose 195 = .ok (.goto (-113), 3) := by decide +kernel
theorem dX11_choose_198 : decode cX11_choose 198 = .ok (.iinc 4 1, 3) := by decide +kernel
theorem dX11_choose_201 : decode cX11_choose 201 = .ok (.goto (-158), 3) := by decide +kernel
theorem dX11_choose_204 : decode cX11_choose 204 = .ok (.iload_n 3, 1) := by decide +kernel
theorem dX11_choose_205 : decode cX11_choose 205 = .ok (.ifCond .ge 8, 3) := by decide +kernel
theorem dX11_choose_208 : decode cX11_choose 208 = .ok (.bipush (-2), 2) := by decide +kernel
theorem dX11_choose_210 : decode cX11_choose 210 = .ok (.goto 4, 3) := by decide +kernel
theorem dX11_choose_213 : decode cX11_choose 213 = .ok (.iload_n 3, 1) := by decide +kernel
theorem dX11_choose_214 : decode cX11_choose 214 = .ok (.ireturn, 1) := by decide +kernel
theorem dX11_chosen_0 : decode cX11_chosen 0 = .ok (.aload_n 0, 1) := by decide +kernel
theorem dX11_chosen_1 : decode cX11_chosen 1 = .ok (.getfield 252, 3) := by decide +kernel
theorem dX11_chosen_4 : decode cX11_chosen 4 = .ok (.ifCond .eq 24, 3) := by decide +kernel
theorem dX11_chosen_7 : decode cX11_chosen 7 = .ok (.iload_n 1, 1) := by decide +kernel
theorem dX11_chosen_8 : decode cX11_chosen 8 = .ok (.i2l, 1) := by decide +kernel
theorem dX11_chosen_9 : decode cX11_chosen 9 = .ok (.lconst 0, 1) := by decide +kernel
theorem dX11_chosen_10 : decode cX11_chosen 10 = .ok (.ldc2_w 157, 3) := by decide +kernel
theorem dX11_chosen_13 : decode cX11_chosen 13 = .ok (.invokestatic 127, 3) := by decide +kernel
theorem dX11_chosen_16 : decode cX11_chosen 16 = .ok (.ifCond .eq 12, 3) := by decide +kernel
theorem dX11_chosen_19 : decode cX11_chosen 19 = .ok (.aload_n 0, 1) := by decide +kernel
theorem dX11_chosen_20 : decode cX11_chosen 20 = .ok (.getfield 69, 3) := by decide +kernel
theorem dX11_chosen_23 : decode cX11_chosen 23 = .ok (.iload_n 1, 1) := by decide +kernel
theorem dX11_chosen_24 : decode cX11_chosen 24 = .ok (.iaload, 1) := by decide +kernel
theorem dX11_chosen_25 : decode cX11_chosen 25 = .ok (.goto 4, 3) := by decide +kernel
theorem dX11_chosen_28 : decode cX11_chosen 28 = .ok (.iconst (-1), 1) := by decide +kernel
theorem dX11_chosen_29 : decode cX11_chosen 29 = .ok (.ireturn, 1) := by decide +kernel
theorem dX11_keep_0 : decode cX11_keep 0 = .ok (.iload_n 1, 1) := by decide +kernel
theorem dX11_keep_1 : decode cX11_keep 1 = .ok (.i2l, 1) := by decide +kernel
theorem dX11_keep_2 : decode cX11_keep 2 = .ok (.lconst 0, 1) := by decide +kernel
theorem dX11_keep_3 : decode cX11_keep 3 = .ok (.lconst 1, 1) := by decide +kernel
theorem dX11_keep_4 : decode cX11_keep 4 = .ok (.invokestatic 127, 3) := by decide +kernel
theorem dX11_keep_7 : decode cX11_keep 7 = .ok (.ifCond .eq 32, 3) := by decide +kernel
theorem dX11_keep_10 : decode cX11_keep 10 = .ok (.aload_n 0, 1) := by decide +kernel
theorem dX11_keep_11 : decode cX11_keep 11 = .ok (.iload_n 2, 1) := by decide +kernel
theorem dX11_keep_12 : decode cX11_keep 12 = .ok (.i2l, 1) := by decide +kernel
theorem dX11_keep_13 : decode cX11_keep 13 = .ok (.iload_n 3, 1) := by decide +kernel
theorem dX11_keep_14 : decode cX11_keep 14 = .ok (.i2l, 1) := by decide +kernel
theorem dX11_keep_15 : decode cX11_keep 15 = .ok (.iload 4, 2) := by decide +kernel
theorem dX11_keep_17 : decode cX11_keep 17 = .ok (.i2l, 1) := by decide +kernel
theorem dX11_keep_18 : decode cX11_keep 18 = .ok (.iload 5, 2) := by decide +kernel
theorem dX11_keep_20 : decode cX11_keep 20 = .ok (.i2l, 1) := by decide +kernel
theorem dX11_keep_21 : decode cX11_keep 21 = .ok (.iload 6, 2) := by decide +kernel
theorem dX11_keep_23 : decode cX11_keep 23 = .ok (.i2l, 1) := by decide +kernel
theorem dX11_keep_24 : decode cX11_keep 24 = .ok (.invokevirtual 229, 3) := by decide +kernel
theorem dX11_keep_27 : decode cX11_keep 27 = .ok (.ifCond .eq 12, 3) := by decide +kernel
theorem dX11_keep_30 : decode cX11_keep 30 = .ok (.aload_n 0, 1) := by decide +kernel
theorem dX11_keep_31 : decode cX11_keep 31 = .ok (.iload 7, 2) := by decide +kernel
theorem dX11_keep_33 : decode cX11_keep 33 = .ok (.invokevirtual 233, 3) := by decide +kernel
theorem dX11_keep_36 : decode cX11_keep 36 = .ok (.ifCond .ne 5, 3) := by decide +kernel
theorem dX11_keep_39 : decode cX11_keep 39 = .ok (.iconst (-1), 1) := by decide +kernel
theorem dX11_keep_40 : decode cX11_keep 40 = .ok (.ireturn, 1) := by decide +kernel
theorem dX11_keep_41 : decode cX11_keep 41 = .ok (.aload_n 0, 1) := by decide +kernel
theorem dX11_keep_42 : decode cX11_keep 42 = .ok (.getfield 72, 3) := by decide +kernel
theorem dX11_keep_45 : decode cX11_keep 45 = .ok (.iload_n 1, 1) := by decide +kernel
theorem dX11_keep_46 : decode cX11_keep 46 = .ok (.iconst 1, 1) := by decide +kernel
theorem dX11_keep_47 : decode cX11_keep 47 = .ok (.bastore, 1) := by decide +kernel
theorem dX11_keep_48 : decode cX11_keep 48 = .ok (.aload_n 0, 1) := by decide +kernel
theorem dX11_keep_49 : decode cX11_keep 49 = .ok (.getfield 75, 3) := by decide +kernel
theorem dX11_keep_52 : decode cX11_keep 52 = .ok (.bipush 6, 2) := by decide +kernel
theorem dX11_keep_54 : decode cX11_keep 54 = .ok (.iload_n 1, 1) := by decide +kernel
theorem dX11_keep_55 : decode cX11_keep 55 = .ok (.imul, 1) := by decide +kernel
theorem dX11_keep_56 : decode cX11_keep 56 = .ok (.iload_n 2, 1) := by decide +kernel
theorem dX11_keep_57 : decode cX11_keep 57 = .ok (.iastore, 1) := by decide +kernel
theorem dX11_keep_58 : decode cX11_keep 58 = .ok (.aload_n 0, 1) := by decide +kernel
theorem dX11_keep_59 : decode cX11_keep 59 = .ok (.getfield 75, 3) := by decide +kernel
theorem dX11_keep_62 : decode cX11_keep 62 = .ok (.bipush 6, 2) := by decide +kernel
theorem dX11_keep_64 : decode cX11_keep 64 = .ok (.iload_n 1, 1) := by decide +kernel
theorem dX11_keep_65 : decode cX11_keep 65 = .ok (.imul, 1) := by decide +kernel
theorem dX11_keep_66 : decode cX11_keep 66 = .ok (.iconst 1, 1) := by decide +kernel
theorem dX11_keep_67 : decode cX11_keep 67 = .ok (.iadd, 1) := by decide +kernel
theorem dX11_keep_68 : decode cX11_keep 68 = .ok (.iload_n 3, 1) := by decide +kernel
theorem dX11_keep_69 : decode cX11_keep 69 = .ok (.iastore, 1) := by decide +kernel
theorem dX11_keep_70 : decode cX11_keep 70 = .ok (.aload_n 0, 1) := by decide +kernel
theorem dX11_keep_71 : decode cX11_keep 71 = .ok (.getfield 75, 3) := by decide +kernel
theorem dX11_keep_74 : decode cX11_keep 74 = .ok (.bipush 6, 2) := by decide +kernel
theorem dX11_keep_76 : decode cX11_keep 76 = .ok (.iload_n 1, 1) := by decide +kernel
theorem dX11_keep_77 : decode cX11_keep 77 = .ok (.imul, 1) := by decide +kernel
theorem dX11_keep_78 : decode cX11_keep 78 = .ok (.iconst 2, 1) := by decide +kernel
theorem dX11_keep_79 : decode cX11_keep 79 = .ok (.iadd, 1) := by decide +kernel
theorem dX11_keep_80 : decode cX11_keep 80 = .ok (.iload 4, 2) := by decide +kernel
theorem dX11_keep_82 : decode cX11_keep 82 = .ok (.iastore, 1) := by decide +kernel
theorem dX11_keep_83 : decode cX11_keep 83 = .ok (.aload_n 0, 1) := by decide +kernel
theorem dX11_keep_84 : decode cX11_keep 84 = .ok (.getfield 75, 3) := by decide +kernel
theorem dX11_keep_87 : decode cX11_keep 87 = .ok (.bipush 6, 2) := by decide +kernel
theorem dX11_keep_89 : decode cX11_keep 89 = .ok (.iload_n 1, 1) := by decide +kernel
theorem dX11_keep_90 : decode cX11_keep 90 = .ok (.imul, 1) := by decide +kernel
theorem dX11_keep_91 : decode cX11_keep 91 = .ok (.iconst 3, 1) := by decide +kernel
theorem dX11_keep_92 : decode cX11_keep 92 = .ok (.iadd, 1) := by decide +kernel
theorem dX11_keep_93 : decode cX11_keep 93 = .ok (.iload 5, 2) := by decide +kernel
theorem dX11_keep_95 : decode cX11_keep 95 = .ok (.iastore, 1) := by decide +kernel
theorem dX11_keep_96 : decode cX11_keep 96 = .ok (.aload_n 0, 1) := by decide +kernel
theorem dX11_keep_97 : decode cX11_keep 97 = .ok (.getfield 75, 3) := by decide +kernel
theorem dX11_keep_100 : decode cX11_keep 100 = .ok (.bipush 6, 2) := by decide +kernel
theorem dX11_keep_102 : decode cX11_keep 102 = .ok (.iload_n 1, 1) := by decide +kernel
theorem dX11_keep_103 : decode cX11_keep 103 = .ok (.imul, 1) := by decide +kernel
theorem dX11_keep_104 : decode cX11_keep 104 = .ok (.iconst 4, 1) := by decide +kernel
theorem dX11_keep_105 : decode cX11_keep 105 = .ok (.iadd, 1) := by decide +kernel
theorem dX11_keep_106 : decode cX11_keep 106 = .ok (.iload 6, 2) := by decide +kernel
theorem dX11_keep_108 : decode cX11_keep 108 = .ok (.iastore, 1) := by decide +kernel
theorem dX11_keep_109 : decode cX11_keep 109 = .ok (.aload_n 0, 1) := by decide +kernel
theorem dX11_keep_110 : decode cX11_keep 110 = .ok (.getfield 75, 3) := by decide +kernel
theorem dX11_keep_113 : decode cX11_keep 113 = .ok (.bipush 6, 2) := by decide +kernel
theorem dX11_keep_115 : decode cX11_keep 115 = .ok (.iload_n 1, 1) := by decide +kernel
theorem dX11_keep_116 : decode cX11_keep 116 = .ok (.imul, 1) := by decide +kernel
theorem dX11_keep_117 : decode cX11_keep 117 = .ok (.iconst 5, 1) := by decide +kernel
theorem dX11_keep_118 : decode cX11_keep 118 = .ok (.iadd, 1) := by decide +kernel
theorem dX11_keep_119 : decode cX11_keep 119 = .ok (.iload 7, 2) := by decide +kernel
theorem dX11_keep_121 : decode cX11_keep 121 = .ok (.iastore, 1) := by decide +kernel
theorem dX11_keep_122 : decode cX11_keep 122 = .ok (.iconst 1, 1) := by decide +kernel
theorem dX11_keep_123 : decode cX11_keep 123 = .ok (.ireturn, 1) := by decide +kernel
theorem dX11_caught_0 : decode cX11_caught 0 = .ok (.bipush 6, 2) := by decide +kernel
theorem dX11_caught_2 : decode cX11_caught 2 = .ok (.iload_n 1, 1) := by decide +kernel
theorem dX11_caught_3 : decode cX11_caught 3 = .ok (.imul, 1) := by decide +kernel
theorem dX11_caught_4 : decode cX11_caught 4 = .ok (.istore_n 2, 1) := by decide +kernel
theorem dX11_caught_5 : decode cX11_caught 5 = .ok (.aload_n 0, 1) := by decide +kernel
theorem dX11_caught_6 : decode cX11_caught 6 = .ok (.aload_n 0, 1) := by decide +kernel
theorem dX11_caught_7 : decode cX11_caught 7 = .ok (.getfield 75, 3) := by decide +kernel
theorem dX11_caught_10 : decode cX11_caught 10 = .ok (.iload_n 2, 1) := by decide +kernel
theorem dX11_caught_11 : decode cX11_caught 11 = .ok (.iaload, 1) := by decide +kernel
theorem dX11_caught_12 : decode cX11_caught 12 = .ok (.aload_n 0, 1) := by decide +kernel
theorem dX11_caught_13 : decode cX11_caught 13 = .ok (.getfield 28, 3) := by decide +kernel
theorem dX11_caught_16 : decode cX11_caught 16 = .ok (.aload_n 0, 1) := by decide +kernel
theorem dX11_caught_17 : decode cX11_caught 17 = .ok (.getfield 75, 3) := by decide +kernel
theorem dX11_caught_20 : decode cX11_caught 20 = .ok (.iload_n 2, 1) := by decide +kernel
theorem dX11_caught_21 : decode cX11_caught 21 = .ok (.iaload, 1) := by decide +kernel
theorem dX11_caught_22 : decode cX11_caught 22 = .ok (.iaload, 1) := by decide +kernel
theorem dX11_caught_23 : decode cX11_caught 23 = .ok (.aload_n 0, 1) := by decide +kernel
theorem dX11_caught_24 : decode cX11_caught 24 = .ok (.getfield 75, 3) := by decide +kernel
theorem dX11_caught_27 : decode cX11_caught 27 = .ok (.iload_n 2, 1) := by decide +kernel
theorem dX11_caught_28 : decode cX11_caught 28 = .ok (.iconst 1, 1) := by decide +kernel
theorem dX11_caught_29 : decode cX11_caught 29 = .ok (.iadd, 1) := by decide +kernel
theorem dX11_caught_30 : decode cX11_caught 30 = .ok (.iaload, 1) := by decide +kernel
theorem dX11_caught_31 : decode cX11_caught 31 = .ok (.aload_n 0, 1) := by decide +kernel
theorem dX11_caught_32 : decode cX11_caught 32 = .ok (.getfield 75, 3) := by decide +kernel
theorem dX11_caught_35 : decode cX11_caught 35 = .ok (.iload_n 2, 1) := by decide +kernel
theorem dX11_caught_36 : decode cX11_caught 36 = .ok (.iconst 2, 1) := by decide +kernel
theorem dX11_caught_37 : decode cX11_caught 37 = .ok (.iadd, 1) := by decide +kernel
theorem dX11_caught_38 : decode cX11_caught 38 = .ok (.iaload, 1) := by decide +kernel
theorem dX11_caught_39 : decode cX11_caught 39 = .ok (.aload_n 0, 1) := by decide +kernel
theorem dX11_caught_40 : decode cX11_caught 40 = .ok (.getfield 75, 3) := by decide +kernel
theorem dX11_caught_43 : decode cX11_caught 43 = .ok (.iload_n 2, 1) := by decide +kernel
theorem dX11_caught_44 : decode cX11_caught 44 = .ok (.iconst 3, 1) := by decide +kernel
theorem dX11_caught_45 : decode cX11_caught 45 = .ok (.iadd, 1) := by decide +kernel
theorem dX11_caught_46 : decode cX11_caught 46 = .ok (.iaload, 1) := by decide +kernel
theorem dX11_caught_47 : decode cX11_caught 47 = .ok (.aload_n 0, 1) := by decide +kernel
theorem dX11_caught_48 : decode cX11_caught 48 = .ok (.getfield 75, 3) := by decide +kernel
theorem dX11_caught_51 : decode cX11_caught 51 = .ok (.iload_n 2, 1) := by decide +kernel
theorem dX11_caught_52 : decode cX11_caught 52 = .ok (.iconst 4, 1) := by decide +kernel
theorem dX11_caught_53 : decode cX11_caught 53 = .ok (.iadd, 1) := by decide +kernel
theorem dX11_caught_54 : decode cX11_caught 54 = .ok (.iaload, 1) := by decide +kernel
theorem dX11_caught_55 : decode cX11_caught 55 = .ok (.aload_n 0, 1) := by decide +kernel
theorem dX11_caught_56 : decode cX11_caught 56 = .ok (.getfield 75, 3) := by decide +kernel
theorem dX11_caught_59 : decode cX11_caught 59 = .ok (.iload_n 2, 1) := by decide +kernel
theorem dX11_caught_60 : decode cX11_caught 60 = .ok (.iconst 5, 1) := by decide +kernel
theorem dX11_caught_61 : decode cX11_caught 61 = .ok (.iadd, 1) := by decide +kernel
theorem dX11_caught_62 : decode cX11_caught 62 = .ok (.iaload, 1) := by decide +kernel
theorem dX11_caught_63 : decode cX11_caught 63 = .ok (.invokevirtual 236, 3) := by decide +kernel
theorem dX11_caught_66 : decode cX11_caught 66 = .ok (.istore_n 3, 1) := by decide +kernel
theorem dX11_caught_67 : decode cX11_caught 67 = .ok (.iload_n 3, 1) := by decide +kernel
theorem dX11_caught_68 : decode cX11_caught 68 = .ok (.iconst 2, 1) := by decide +kernel
theorem dX11_caught_69 : decode cX11_caught 69 = .ok (.if_icmp .ne 10, 3) := by decide +kernel
theorem dX11_caught_72 : decode cX11_caught 72 = .ok (.aload_n 0, 1) := by decide +kernel
theorem dX11_caught_73 : decode cX11_caught 73 = .ok (.getfield 189, 3) := by decide +kernel
theorem dX11_caught_76 : decode cX11_caught 76 = .ok (.goto 5, 3) := by decide +kernel
theorem dX11_caught_79 : decode cX11_caught 79 = .ok (.bipush (-4), 2) := by decide +kernel
theorem dX11_caught_81 : decode cX11_caught 81 = .ok (.ireturn, 1) := by decide +kernel
theorem dX11_two_0 : decode cX11_two 0 = .ok (.iload_n 1, 1) := by decide +kernel
theorem dX11_two_1 : decode cX11_two 1 = .ok (.i2l, 1) := by decide +kernel
theorem dX11_two_2 : decode cX11_two 2 = .ok (.lconst 1, 1) := by decide +kernel
theorem dX11_two_3 : decode cX11_two 3 = .ok (.ldc2_w 136, 3) := by decide +kernel
theorem dX11_two_6 : decode cX11_two 6 = .ok (.invokestatic 127, 3) := by decide +kernel
theorem dX11_two_9 : decode cX11_two 9 = .ok (.ifCond .ne 5, 3) := by decide +kernel
theorem dX11_two_12 : decode cX11_two 12 = .ok (.iconst (-1), 1) := by decide +kernel
theorem dX11_two_13 : decode cX11_two 13 = .ok (.ireturn, 1) := by decide +kernel
theorem dX11_two_14 : decode cX11_two 14 = .ok (.aload_n 0, 1) := by decide +kernel
theorem dX11_two_15 : decode cX11_two 15 = .ok (.getfield 72, 3) := by decide +kernel
theorem dX11_two_18 : decode cX11_two 18 = .ok (.iconst 0, 1) := by decide +kernel
theorem dX11_two_19 : decode cX11_two 19 = .ok (.baload, 1) := by decide +kernel
theorem dX11_two_20 : decode cX11_two 20 = .ok (.ifCond .eq 28, 3) := by decide +kernel
theorem dX11_two_23 : decode cX11_two 23 = .ok (.aload_n 0, 1) := by decide +kernel
theorem dX11_two_24 : decode cX11_two 24 = .ok (.getfield 72, 3) := by decide +kernel
theorem dX11_two_27 : decode cX11_two 27 = .ok (.iconst 1, 1) := by decide +kernel
theorem dX11_two_28 : decode cX11_two 28 = .ok (.baload, 1) := by decide +kernel
theorem dX11_two_29 : decode cX11_two 29 = .ok (.ifCond .eq 19, 3) := by decide +kernel
theorem dX11_two_32 : decode cX11_two 32 = .ok (.aload_n 0, 1) := by decide +kernel
theorem dX11_two_33 : decode cX11_two 33 = .ok (.getfield 75, 3) := by decide +kernel
theorem dX11_two_36 : decode cX11_two 36 = .ok (.iconst 0, 1) := by decide +kernel
theorem dX11_two_37 : decode cX11_two 37 = .ok (.iaload, 1) := by decide +kernel
theorem dX11_two_38 : decode cX11_two 38 = .ok (.aload_n 0, 1) := by decide +kernel
theorem dX11_two_39 : decode cX11_two 39 = .ok (.getfield 75, 3) := by decide +kernel
theorem dX11_two_42 : decode cX11_two 42 = .ok (.bipush 6, 2) := by decide +kernel
theorem dX11_two_44 : decode cX11_two 44 = .ok (.iaload, 1) := by decide +kernel
theorem dX11_two_45 : decode cX11_two 45 = .ok (.if_icmp .ne 6, 3) := by decide +kernel
theorem dX11_two_48 : decode cX11_two 48 = .ok (.bipush (-2), 2) := by decide +kernel
theorem dX11_two_50 : decode cX11_two 50 = .ok (.ireturn, 1) := by decide +kernel
theorem dX11_two_51 : decode cX11_two 51 = .ok (.aload_n 0, 1) := by decide +kernel
theorem dX11_two_52 : decode cX11_two 52 = .ok (.iconst 0, 1) := by decide +kernel
theorem dX11_two_53 : decode cX11_two 53 = .ok (.invokevirtual 255, 3) := by decide +kernel
theorem dX11_two_56 : decode cX11_two 56 = .ok (.istore_n 2, 1) := by decide +kernel
theorem dX11_two_57 : decode cX11_two 57 = .ok (.aload_n 0, 1) := by decide +kernel
theorem dX11_two_58 : decode cX11_two 58 = .ok (.iconst 1, 1) := by decide +kernel
theorem dX11_two_59 : decode cX11_two 59 = .ok (.invokevirtual 255, 3) := by decide +kernel
theorem dX11_two_62 : decode cX11_two 62 = .ok (.istore_n 3, 1) := by decide +kernel
theorem dX11_two_63 : decode cX11_two 63 = .ok (.iconst 1, 1) := by decide +kernel
theorem dX11_two_64 : decode cX11_two 64 = .ok (.istore 4, 2) := by decide +kernel
theorem dX11_two_66 : decode cX11_two 66 = .ok (.iload 4, 2) := by decide +kernel
theorem dX11_two_68 : decode cX11_two 68 = .ok (.sipush 200, 3) := by decide +kernel
theorem dX11_two_71 : decode cX11_two 71 = .ok (.if_icmp .gt 41, 3) := by decide +kernel
theorem dX11_two_74 : decode cX11_two 74 = .ok (.iload_n 2, 1) := by decide +kernel
theorem dX11_two_75 : decode cX11_two 75 = .ok (.ifCond .le 37, 3) := by decide +kernel
theorem dX11_two_78 : decode cX11_two 78 = .ok (.iload_n 3, 1) := by decide +kernel
theorem dX11_two_79 : decode cX11_two 79 = .ok (.ifCond .le 33, 3) := by decide +kernel
theorem dX11_two_82 : decode cX11_two 82 = .ok (.iload 4, 2) := by decide +kernel
theorem dX11_two_84 : decode cX11_two 84 = .ok (.iload_n 3, 1) := by decide +kernel
theorem dX11_two_85 : decode cX11_two 85 = .ok (.iadd, 1) := by decide +kernel
theorem dX11_two_86 : decode cX11_two 86 = .ok (.iload_n 2, 1) := by decide +kernel
theorem dX11_two_87 : decode cX11_two 87 = .ok (.isub, 1) := by decide +kernel
theorem dX11_two_88 : decode cX11_two 88 = .ok (.istore 5, 2) := by decide +kernel
theorem dX11_two_90 : decode cX11_two 90 = .ok (.iload 5, 2) := by decide +kernel
theorem dX11_two_92 : decode cX11_two 92 = .ok (.iload_n 1, 1) := by decide +kernel
theorem dX11_two_93 : decode cX11_two 93 = .ok (.if_icmp .ge 10, 3) := by decide +kernel
theorem dX11_two_96 : decode cX11_two 96 = .ok (.iload 5, 2) := by decide +kernel
theorem dX11_two_98 : decode cX11_two 98 = .ok (.iload_n 1, 1) := by decide +kernel
theorem dX11_two_99 : decode cX11_two 99 = .ok (.ineg, 1) := by decide +kernel
theorem dX11_two_100 : decode cX11_two 100 = .ok (.if_icmp .gt 6, 3) := by decide +kernel
theorem dX11_two_103 : decode cX11_two 103 = .ok (.iload 4, 2) := by decide +kernel
theorem dX11_two_105 : decode cX11_two 105 = .ok (.ireturn, 1) := by decide +kernel
theorem dX11_two_106 : decode cX11_two 106 = .ok (.iinc 4 1, 3) := by decide +kernel
theorem dX11_two_109 : decode cX11_two 109 = .ok (.goto (-43), 3) := by decide +kernel
theorem dX11_two_112 : decode cX11_two 112 = .ok (.bipush (-4), 2) := by decide +kernel
theorem dX11_two_114 : decode cX11_two 114 = .ok (.ireturn, 1) := by decide +kernel
theorem dX11_match_0 : decode cX11_match 0 = .ok (.iload_n 1, 1) := by decide +kernel
theorem dX11_match_1 : decode cX11_match 1 = .ok (.i2l, 1) := by decide +kernel
theorem dX11_match_2 : decode cX11_match 2 = .ok (.lconst 0, 1) := by decide +kernel
theorem dX11_match_3 : decode cX11_match 3 = .ok (.ldc2_w 258, 3) := by decide +kernel
theorem dX11_match_6 : decode cX11_match 6 = .ok (.invokestatic 127, 3) := by decide +kernel
theorem dX11_match_9 : decode cX11_match 9 = .ok (.ifCond .eq 21, 3) := by decide +kernel
theorem dX11_match_12 : decode cX11_match 12 = .ok (.iload_n 2, 1) := by decide +kernel
theorem dX11_match_13 : decode cX11_match 13 = .ok (.i2l, 1) := by decide +kernel
theorem dX11_match_14 : decode cX11_match 14 = .ok (.ldc2_w 260, 3) := by decide +kernel
theorem dX11_match_17 : decode cX11_match 17 = .ok (.aload_n 0, 1) := by decide +kernel
theorem dX11_match_18 : decode cX11_match 18 = .ok (.getfield 165, 3) := by decide +kernel
theorem dX11_match_21 : decode cX11_match 21 = .ok (.iconst 1, 1) := by decide +kernel
theorem dX11_match_22 : decode cX11_match 22 = .ok (.isub, 1) := by decide +kernel
theorem dX11_match_23 : decode cX11_match 23 = .ok (.i2l, 1) := by decide +kernel
theorem dX11_match_24 : decode cX11_match 24 = .ok (.invokestatic 127, 3) := by decide +kernel
theorem dX11_match_27 : decode cX11_match 27 = .ok (.ifCond .ne 6, 3) := by decide +kernel
theorem dX11_match_30 : decode cX11_match 30 = .ok (.bipush (-11), 2) := by decide +kernel
theorem dX11_match_32 : decode cX11_match 32 = .ok (.ireturn, 1) := by decide +kernel
theorem dX11_match_33 : decode cX11_match 33 = .ok (.aload_n 0, 1) := by decide +kernel
theorem dX11_match_34 : decode cX11_match 34 = .ok (.getfield 78, 3) := by decide +kernel
theorem dX11_match_37 : decode cX11_match 37 = .ok (.iload_n 1, 1) := by decide +kernel
theorem dX11_match_38 : decode cX11_match 38 = .ok (.iaload, 1) := by decide +kernel
theorem dX11_match_39 : decode cX11_match 39 = .ok (.istore_n 3, 1) := by decide +kernel
theorem dX11_match_40 : decode cX11_match 40 = .ok (.aload_n 0, 1) := by decide +kernel
theorem dX11_match_41 : decode cX11_match 41 = .ok (.getfield 78, 3) := by decide +kernel
theorem dX11_match_44 : decode cX11_match 44 = .ok (.iload_n 1, 1) := by decide +kernel
theorem dX11_match_45 : decode cX11_match 45 = .ok (.iload_n 2, 1) := by decide +kernel
theorem dX11_match_46 : decode cX11_match 46 = .ok (.iastore, 1) := by decide +kernel
theorem dX11_match_47 : decode cX11_match 47 = .ok (.iload_n 3, 1) := by decide +kernel
theorem dX11_match_48 : decode cX11_match 48 = .ok (.ireturn, 1) := by decide +kernel
theorem dX11_style_0 : decode cX11_style 0 = .ok (.iload_n 1, 1) := by decide +kernel
theorem dX11_style_1 : decode cX11_style 1 = .ok (.i2l, 1) := by decide +kernel
theorem dX11_style_2 : decode cX11_style 2 = .ok (.lconst 0, 1) := by decide +kernel
theorem dX11_style_3 : decode cX11_style 3 = .ok (.ldc2_w 223, 3) := by decide +kernel
theorem dX11_style_6 : decode cX11_style 6 = .ok (.invokestatic 127, 3) := by decide +kernel
theorem dX11_style_9 : decode cX11_style 9 = .ok (.ifCond .eq 44, 3) := by decide +kernel
theorem dX11_style_12 : decode cX11_style 12 = .ok (.iload_n 2, 1) := by decide +kernel
theorem dX11_style_13 : decode cX11_style 13 = .ok (.i2l, 1) := by decide +kernel
theorem dX11_style_14 : decode cX11_style 14 = .ok (.lconst 0, 1) := by decide +kernel
theorem dX11_style_15 : decode cX11_style 15 = .ok (.ldc2_w 131, 3) := by decide +kernel
theorem dX11_style_18 : decode cX11_style 18 = .ok (.invokestatic 127, 3) := by decide +kernel
theorem dX11_style_21 : decode cX11_style 21 = .ok (.ifCond .eq 32, 3) := by decide +kernel
theorem dX11_style_24 : decode cX11_style 24 = .ok (.iload_n 3, 1) := by decide +kernel
theorem dX11_style_25 : decode cX11_style 25 = .ok (.i2l, 1) := by decide +kernel
theorem dX11_style_26 : decode cX11_style 26 = .ok (.ldc2_w 225, 3) := by decide +kernel
theorem dX11_style_29 : decode cX11_style 29 = .ok (.ldc2_w 210, 3) := by decide +kernel
theorem dX11_style_32 : decode cX11_style 32 = .ok (.invokestatic 127, 3) := by decide +kernel
theorem dX11_style_35 : decode cX11_style 35 = .ok (.ifCond .eq 18, 3) := by decide +kernel
theorem dX11_style_38 : decode cX11_style 38 = .ok (.iload 4, 2) := by decide +kernel
theorem dX11_style_40 : decode cX11_style 40 = .ok (.i2l, 1) := by decide +kernel
theorem dX11_style_41 : decode cX11_style 41 = .ok (.ldc2_w 136, 3) := by decide +kernel
theorem dX11_style_44 : decode cX11_style 44 = .ok (.ldc2_w 227, 3) := by decide +kernel
theorem dX11_style_47 : decode cX11_style 47 = .ok (.invokestatic 127, 3) := by decide +kernel
theorem dX11_style_50 : decode cX11_style 50 = .ok (.ifCond .ne 5, 3) := by decide +kernel
theorem dX11_style_53 : decode cX11_style 53 = .ok (.iconst (-1), 1) := by decide +kernel
theorem dX11_style_54 : decode cX11_style 54 = .ok (.ireturn, 1) := by decide +kernel
theorem dX11_style_55 : decode cX11_style 55 = .ok (.aload_n 0, 1) := by decide +kernel
theorem dX11_style_56 : decode cX11_style 56 = .ok (.iload_n 1, 1) := by decide +kernel
theorem dX11_style_57 : decode cX11_style 57 = .ok (.putfield 81, 3) := by decide +kernel
theorem dX11_style_60 : decode cX11_style 60 = .ok (.aload_n 0, 1) := by decide +kernel
theorem dX11_style_61 : decode cX11_style 61 = .ok (.iload_n 2, 1) := by decide +kernel
theorem dX11_style_62 : decode cX11_style 62 = .ok (.putfield 262, 3) := by decide +kernel
theorem dX11_style_65 : decode cX11_style 65 = .ok (.aload_n 0, 1) := by decide +kernel
theorem dX11_style_66 : decode cX11_style 66 = .ok (.iload_n 3, 1) := by decide +kernel
theorem dX11_style_67 : decode cX11_style 67 = .ok (.putfield 84, 3) := by decide +kernel
theorem dX11_style_70 : decode cX11_style 70 = .ok (.aload_n 0, 1) := by decide +kernel
theorem dX11_style_71 : decode cX11_style 71 = .ok (.iload 4, 2) := by decide +kernel
theorem dX11_style_73 : decode cX11_style 73 = .ok (.putfield 87, 3) := by decide +kernel
theorem dX11_style_76 : decode cX11_style 76 = .ok (.iconst 1, 1) := by decide +kernel
theorem dX11_style_77 : decode cX11_style 77 = .ok (.ireturn, 1) := by decide +kernel
theorem dX11_root_0 : decode cX11_root 0 = .ok (.lconst 0, 1) := by decide +kernel
theorem dX11_root_1 : decode cX11_root 1 = .ok (.lstore_n 2, 1) := by decide +kernel
theorem dX11_root_2 : decode cX11_root 2 = .ok (.ldc2_w 265, 3) := by decide +kernel
theorem dX11_root_5 : decode cX11_root 5 = .ok (.lstore 4, 2) := by decide +kernel
theorem dX11_root_7 : decode cX11_root 7 = .ok (.lload_n 2, 1) := by decide +kernel
theorem dX11_root_8 : decode cX11_root 8 = .ok (.lload 4, 2) := by decide +kernel
theorem dX11_root_10 : decode cX11_root 10 = .ok (.lcmp, 1) := by decide +kernel
theorem dX11_root_11 : decode cX11_root 11 = .ok (.ifCond .ge 56, 3) := by decide +kernel
theorem dX11_root_14 : decode cX11_root 14 = .ok (.lload_n 2, 1) := by decide +kernel
theorem dX11_root_15 : decode cX11_root 15 = .ok (.lload 4, 2) := by decide +kernel
theorem dX11_root_17 : decode cX11_root 17 = .ok (.ladd, 1) := by decide +kernel
theorem dX11_root_18 : decode cX11_root 18 = .ok (.lconst 1, 1) := by decide +kernel
theorem dX11_root_19 : decode cX11_root 19 = .ok (.ladd, 1) := by decide +kernel
theorem dX11_root_20 : decode cX11_root 20 = .ok (.ldc2_w 267, 3) := by decide +kernel
theorem dX11_root_23 : decode cX11_root 23 = .ok (.ldiv, 1) := by decide +kernel
theorem dX11_root_24 : decode cX11_root 24 = .ok (.lstore 6, 2) := by decide +kernel
theorem dX11_root_26 : decode cX11_root 26 = .ok (.lload 6, 2) := by decide +kernel
theorem dX11_root_28 : decode cX11_root 28 = .ok (.lload 6, 2) := by decide +kernel
theorem dX11_root_30 : decode cX11_root 30 = .ok (.lmul, 1) := by decide +kernel
theorem dX11_root_31 : decode cX11_root 31 = .ok (.lload_n 0, 1) := by decide +kernel
theorem dX11_root_32 : decode cX11_root 32 = .ok (.lcmp, 1) := by decide +kernel
theorem dX11_root_33 : decode cX11_root 33 = .ok (.ifCond .gt 8, 3) := by decide +kernel
theorem dX11_root_36 : decode cX11_root 36 = .ok (.lload 6, 2) := by decide +kernel
theorem dX11_root_38 : decode cX11_root 38 = .ok (.goto 4, 3) := by decide +kernel
theorem dX11_root_41 : decode cX11_root 41 = .ok (.lload_n 2, 1) := by decide +kernel
theorem dX11_root_42 : decode cX11_root 42 = .ok (.lstore_n 2, 1) := by decide +kernel
theorem dX11_root_43 : decode cX11_root 43 = .ok (.lload 6, 2) := by decide +kernel
theorem dX11_root_45 : decode cX11_root 45 = .ok (.lload 6, 2) := by decide +kernel
theorem dX11_root_47 : decode cX11_root 47 = .ok (.lmul, 1) := by decide +kernel
theorem dX11_root_48 : decode cX11_root 48 = .ok (.lload_n 0, 1) := by decide +kernel
theorem dX11_root_49 : decode cX11_root 49 = .ok (.lcmp, 1) := by decide +kernel
theorem dX11_root_50 : decode cX11_root 50 = .ok (.ifCond .gt 8, 3) := by decide +kernel
theorem dX11_root_53 : decode cX11_root 53 = .ok (.lload 4, 2) := by decide +kernel
theorem dX11_root_55 : decode cX11_root 55 = .ok (.goto 7, 3) := by decide +kernel
theorem dX11_root_58 : decode cX11_root 58 = .ok (.lload 6, 2) := by decide +kernel
theorem dX11_root_60 : decode cX11_root 60 = .ok (.lconst 1, 1) := by decide +kernel
theorem dX11_root_61 : decode cX11_root 61 = .ok (.lsub, 1) := by decide +kernel
theorem dX11_root_62 : decode cX11_root 62 = .ok (.lstore 4, 2) := by decide +kernel
theorem dX11_root_64 : decode cX11_root 64 = .ok (.goto (-57), 3) := by decide +kernel
theorem dX11_root_67 : decode cX11_root 67 = .ok (.lload_n 2, 1) := by decide +kernel
theorem dX11_root_68 : decode cX11_root 68 = .ok (.lreturn, 1) := by decide +kernel
theorem dX11_pointsOf_0 : decode cX11_pointsOf 0 = .ok (.aload_n 0, 1) := by decide +kernel
theorem dX11_pointsOf_1 : decode cX11_pointsOf 1 = .ok (.iload_n 1, 1) := by decide +kernel
theorem dX11_pointsOf_2 : decode cX11_pointsOf 2 = .ok (.aload_n 0, 1) := by decide +kernel
theorem dX11_pointsOf_3 : decode cX11_pointsOf 3 = .ok (.getfield 28, 3) := by decide +kernel
theorem dX11_pointsOf_6 : decode cX11_pointsOf 6 = .ok (.iload_n 1, 1) := by decide +kernel
theorem dX11_pointsOf_7 : decode cX11_pointsOf 7 = .ok (.iaload, 1) := by decide +kernel
theorem dX11_pointsOf_8 : decode cX11_pointsOf 8 = .ok (.aload_n 0, 1) := by decide +kernel
theorem dX11_pointsOf_9 : decode cX11_pointsOf 9 = .ok (.getfield 81, 3) := by decide +kernel
theorem dX11_pointsOf_12 : decode cX11_pointsOf 12 = .ok (.aload_n 0, 1) := by decide +kernel
theorem dX11_pointsOf_13 : decode cX11_pointsOf 13 = .ok (.getfield 262, 3) := by decide +kernel
theorem dX11_pointsOf_16 : decode cX11_pointsOf 16 = .ok (.aload_n 0, 1) := by decide +kernel
theorem dX11_pointsOf_17 : decode cX11_pointsOf 17 = .ok (.getfield 84, 3) := by decide +kernel
theorem dX11_pointsOf_20 : decode cX11_pointsOf 20 = .ok (.aload_n 0, 1) := by decide +kernel
theorem dX11_pointsOf_21 : decode cX11_pointsOf 21 = .ok (.getfield 87, 3) := by decide +kernel
theorem dX11_pointsOf_24 : decode cX11_pointsOf 24 = .ok (.iload_n 2, 1) := by decide +kernel
theorem dX11_pointsOf_25 : decode cX11_pointsOf 25 = .ok (.invokevirtual 236, 3) := by decide +kernel
theorem dX11_pointsOf_28 : decode cX11_pointsOf 28 = .ok (.istore_n 3, 1) := by decide +kernel
theorem dX11_pointsOf_29 : decode cX11_pointsOf 29 = .ok (.iload_n 3, 1) := by decide +kernel
theorem dX11_pointsOf_30 : decode cX11_pointsOf 30 = .ok (.iconst 1, 1) := by decide +kernel
theorem dX11_pointsOf_31 : decode cX11_pointsOf 31 = .ok (.if_icmp .eq 15, 3) := by decide +kernel
theorem dX11_pointsOf_34 : decode cX11_pointsOf 34 = .ok (.iload_n 3, 1) := by decide +kernel
theorem dX11_pointsOf_35 : decode cX11_pointsOf 35 = .ok (.iconst 2, 1) := by decide +kernel
theorem dX11_pointsOf_36 : decode cX11_pointsOf 36 = .ok (.if_icmp .ne 8, 3) := by decide +kernel
theorem dX11_pointsOf_39 : decode cX11_pointsOf 39 = .ok (.bipush 50, 2) := by decide +kernel
theorem dX11_pointsOf_41 : decode cX11_pointsOf 41 = .ok (.goto 4, 3) := by decide +kernel
theorem dX11_pointsOf_44 : decode cX11_pointsOf 44 = .ok (.iconst 0, 1) := by decide +kernel
theorem dX11_pointsOf_45 : decode cX11_pointsOf 45 = .ok (.ireturn, 1) := by decide +kernel
theorem dX11_pointsOf_46 : decode cX11_pointsOf 46 = .ok (.aload_n 0, 1) := by decide +kernel
theorem dX11_pointsOf_47 : decode cX11_pointsOf 47 = .ok (.getfield 60, 3) := by decide +kernel
theorem dX11_pointsOf_50 : decode cX11_pointsOf 50 = .ok (.iconst 0, 1) := by decide +kernel
theorem dX11_pointsOf_51 : decode cX11_pointsOf 51 = .ok (.iaload, 1) := by decide +kernel
theorem dX11_pointsOf_52 : decode cX11_pointsOf 52 = .ok (.i2l, 1) := by decide +kernel
theorem dX11_pointsOf_53 : decode cX11_pointsOf 53 = .ok (.lstore 4, 2) := by decide +kernel
theorem dX11_pointsOf_55 : decode cX11_pointsOf 55 = .ok (.aload_n 0, 1) := by decide +kernel
theorem dX11_pointsOf_56 : decode cX11_pointsOf 56 = .ok (.getfield 60, 3) := by decide +kernel
theorem dX11_pointsOf_59 : decode cX11_pointsOf 59 = .ok (.iconst 1, 1) := by decide +kernel
theorem dX11_pointsOf_60 : decode cX11_pointsOf 60 = .ok (.iaload, 1) := by decide +kernel
theorem dX11_pointsOf_61 : decode cX11_pointsOf 61 = .ok (.i2l, 1) := by decide +kernel
theorem dX11_pointsOf_62 : decode cX11_pointsOf 62 = .ok (.lstore 6, 2) := by decide +kernel
theorem dX11_pointsOf_64 : decode cX11_pointsOf 64 = .ok (.bipush 40, 2) := by decide +kernel
theorem dX11_pointsOf_66 : decode cX11_pointsOf 66 = .ok (.lload 4, 2) := by decide +kernel
theorem dX11_pointsOf_68 : decode cX11_pointsOf 68 = .ok (.lload 4, 2) := by decide +kernel
theorem dX11_pointsOf_70 : decode cX11_pointsOf 70 = .ok (.lmul, 1) := by decide +kernel
theorem dX11_pointsOf_71 : decode cX11_pointsOf 71 = .ok (.lload 6, 2) := by decide +kernel
theorem dX11_pointsOf_73 : decode cX11_pointsOf 73 = .ok (.lload 6, 2) := by decide +kernel
theorem dX11_pointsOf_75 : decode cX11_pointsOf 75 = .ok (.lmul, 1) := by decide +kernel
theorem dX11_pointsOf_76 : decode cX11_pointsOf 76 = .ok (.ladd, 1) := by decide +kernel
theorem dX11_pointsOf_77 : decode cX11_pointsOf 77 = .ok (.invokestatic 269, 3) := by decide +kernel
theorem dX11_pointsOf_80 : decode cX11_pointsOf 80 = .ok (.ldc2_w 208, 3) := by decide +kernel
theorem dX11_pointsOf_83 : decode cX11_pointsOf 83 = .ok (.ldiv, 1) := by decide +kernel
theorem dX11_pointsOf_84 : decode cX11_pointsOf 84 = .ok (.l2i, 1) := by decide +kernel
theorem dX11_pointsOf_85 : decode cX11_pointsOf 85 = .ok (.isub, 1) := by decide +kernel
theorem dX11_pointsOf_86 : decode cX11_pointsOf 86 = .ok (.istore 8, 2) := by decide +kernel
theorem dX11_pointsOf_88 : decode cX11_pointsOf 88 = .ok (.iload 8, 2) := by decide +kernel
theorem dX11_pointsOf_90 : decode cX11_pointsOf 90 = .ok (.ifCond .ge 7, 3) := by decide +kernel
theorem dX11_pointsOf_93 : decode cX11_pointsOf 93 = .ok (.iconst 0, 1) := by decide +kernel
theorem dX11_pointsOf_94 : decode cX11_pointsOf 94 = .ok (.goto 5, 3) := by decide +kernel
theorem dX11_pointsOf_97 : decode cX11_pointsOf 97 = .ok (.iload 8, 2) := by decide +kernel
theorem dX11_pointsOf_99 : decode cX11_pointsOf 99 = .ok (.ireturn, 1) := by decide +kernel
theorem dX11_points_0 : decode cX11_points 0 = .ok (.aload_n 0, 1) := by decide +kernel
theorem dX11_points_1 : decode cX11_points 1 = .ok (.iload_n 1, 1) := by decide +kernel
theorem dX11_points_2 : decode cX11_points 2 = .ok (.invokevirtual 153, 3) := by decide +kernel
theorem dX11_points_5 : decode cX11_points 5 = .ok (.ifCond .eq 20, 3) := by decide +kernel
theorem dX11_points_8 : decode cX11_points 8 = .ok (.aload_n 0, 1) := by decide +kernel
theorem dX11_points_9 : decode cX11_points 9 = .ok (.iload_n 2, 1) := by decide +kernel
theorem dX11_points_10 : decode cX11_points 10 = .ok (.invokevirtual 233, 3) := by decide +kernel
theorem dX11_points_13 : decode cX11_points 13 = .ok (.ifCond .eq 12, 3) := by decide +kernel
theorem dX11_points_16 : decode cX11_points 16 = .ok (.aload_n 0, 1) := by decide +kernel
theorem dX11_points_17 : decode cX11_points 17 = .ok (.iload_n 1, 1) := by decide +kernel
theorem dX11_points_18 : decode cX11_points 18 = .ok (.iload_n 2, 1) := by decide +kernel
theorem dX11_points_19 : decode cX11_points 19 = .ok (.invokevirtual 273, 3) := by decide +kernel
theorem dX11_points_22 : decode cX11_points 22 = .ok (.goto 4, 3) := by decide +kernel
theorem dX11_points_25 : decode cX11_points 25 = .ok (.iconst (-1), 1) := by decide +kernel
theorem dX11_points_26 : decode cX11_points 26 = .ok (.ireturn, 1) := by decide +kernel
theorem dX11_inBag_0 : decode cX11_inBag 0 = .ok (.iconst 0, 1) := by decide +kernel
theorem dX11_inBag_1 : decode cX11_inBag 1 = .ok (.istore_n 1, 1) := by decide +kernel
theorem dX11_inBag_2 : decode cX11_inBag 2 = .ok (.iconst 0, 1) := by decide +kernel
theorem dX11_inBag_3 : decode cX11_inBag 3 = .ok (.istore_n 2, 1) := by decide +kernel
theorem dX11_inBag_4 : decode cX11_inBag 4 = .ok (.iload_n 2, 1) := by decide +kernel
theorem dX11_inBag_5 : decode cX11_inBag 5 = .ok (.aload_n 0, 1) := by decide +kernel
theorem dX11_inBag_6 : decode cX11_inBag 6 = .ok (.getfield 144, 3) := by decide +kernel
theorem dX11_inBag_9 : decode cX11_inBag 9 = .ok (.if_icmp .ge 26, 3) := by decide +kernel
theorem dX11_inBag_12 : decode cX11_inBag 12 = .ok (.iload_n 1, 1) := by decide +kernel
theorem dX11_inBag_13 : decode cX11_inBag 13 = .ok (.aload_n 0, 1) := by decide +kernel
theorem dX11_inBag_14 : decode cX11_inBag 14 = .ok (.getfield 34, 3) := by decide +kernel
theorem dX11_inBag_17 : decode cX11_inBag 17 = .ok (.iload_n 2, 1) := by decide +kernel
theorem dX11_inBag_18 : decode cX11_inBag 18 = .ok (.baload, 1) := by decide +kernel
theorem dX11_inBag_19 : decode cX11_inBag 19 = .ok (.ifCond .eq 7, 3) := by decide +kernel
theorem dX11_inBag_22 : decode cX11_inBag 22 = .ok (.iconst 0, 1) := by decide +kernel
theorem dX11_inBag_23 : decode cX11_inBag 23 = .ok (.goto 4, 3) := by decide +kernel
theorem dX11_inBag_26 : decode cX11_inBag 26 = .ok (.iconst 1, 1) := by decide +kernel
theorem dX11_inBag_27 : decode cX11_inBag 27 = .ok (.iadd, 1) := by decide +kernel
theorem dX11_inBag_28 : decode cX11_inBag 28 = .ok (.istore_n 1, 1) := by decide +kernel
theorem dX11_inBag_29 : decode cX11_inBag 29 = .ok (.iinc 2 1, 3) := by decide +kernel
theorem dX11_inBag_32 : decode cX11_inBag 32 = .ok (.goto (-28), 3) := by decide +kernel
theorem dX11_inBag_35 : decode cX11_inBag 35 = .ok (.iload_n 1, 1) := by decide +kernel
theorem dX11_inBag_36 : decode cX11_inBag 36 = .ok (.ireturn, 1) := by decide +kernel
theorem dX11_isFree_0 : decode cX11_isFree 0 = .ok (.aload_n 0, 1) := by decide +kernel
theorem dX11_isFree_1 : decode cX11_isFree 1 = .ok (.getfield 34, 3) := by decide +kernel
theorem dX11_isFree_4 : decode cX11_isFree 4 = .ok (.iload_n 2, 1) := by decide +kernel
theorem dX11_isFree_5 : decode cX11_isFree 5 = .ok (.baload, 1) := by decide +kernel
theorem dX11_isFree_6 : decode cX11_isFree 6 = .ok (.ifCond .ne 7, 3) := by decide +kernel
theorem dX11_isFree_9 : decode cX11_isFree 9 = .ok (.iconst 1, 1) := by decide +kernel
theorem dX11_isFree_10 : decode cX11_isFree 10 = .ok (.goto 4, 3) := by decide +kernel
theorem dX11_isFree_13 : decode cX11_isFree 13 = .ok (.iconst 0, 1) := by decide +kernel
theorem dX11_isFree_14 : decode cX11_isFree 14 = .ok (.istore_n 3, 1) := by decide +kernel
theorem dX11_isFree_15 : decode cX11_isFree 15 = .ok (.iconst 0, 1) := by decide +kernel
theorem dX11_isFree_16 : decode cX11_isFree 16 = .ok (.istore 4, 2) := by decide +kernel
theorem dX11_isFree_18 : decode cX11_isFree 18 = .ok (.iload 4, 2) := by decide +kernel
theorem dX11_isFree_20 : decode cX11_isFree 20 = .ok (.iload_n 1, 1) := by decide +kernel
theorem dX11_isFree_21 : decode cX11_isFree 21 = .ok (.if_icmp .ge 30, 3) := by decide +kernel
theorem dX11_isFree_24 : decode cX11_isFree 24 = .ok (.iload_n 3, 1) := by decide +kernel
theorem dX11_isFree_25 : decode cX11_isFree 25 = .ok (.ifCond .eq 18, 3) := by decide +kernel
theorem dX11_isFree_28 : decode cX11_isFree 28 = .ok (.aload_n 0, 1) := by decide +kernel
theorem dX11_isFree_29 : decode cX11_isFree 29 = .ok (.getfield 96, 3) := by decide +kernel
theorem dX11_isFree_32 : decode cX11_isFree 32 = .ok (.iload 4, 2) := by decide +kernel
theorem dX11_isFree_34 : decode cX11_isFree 34 = .ok (.iaload, 1) := by decide +kernel
theorem dX11_isFree_35 : decode cX11_isFree 35 = .ok (.iload_n 2, 1) := by decide +kernel
theorem dX11_isFree_36 : decode cX11_isFree 36 = .ok (.if_icmp .eq 7, 3) := by decide +kernel
theorem dX11_isFree_39 : decode cX11_isFree 39 = .ok (.iconst 1, 1) := by decide +kernel
theorem dX11_isFree_40 : decode cX11_isFree 40 = .ok (.goto 4, 3) := by decide +kernel
theorem dX11_isFree_43 : decode cX11_isFree 43 = .ok (.iconst 0, 1) := by decide +kernel
theorem dX11_isFree_44 : decode cX11_isFree 44 = .ok (.istore_n 3, 1) := by decide +kernel
theorem dX11_isFree_45 : decode cX11_isFree 45 = .ok (.iinc 4 1, 3) := by decide +kernel
theorem dX11_isFree_48 : decode cX11_isFree 48 = .ok (.goto (-30), 3) := by decide +kernel
theorem dX11_isFree_51 : decode cX11_isFree 51 = .ok (.iload_n 3, 1) := by decide +kernel
theorem dX11_isFree_52 : decode cX11_isFree 52 = .ok (.ireturn, 1) := by decide +kernel
theorem dX11_compares_0 : decode cX11_compares 0 = .ok (.iconst 0, 1) := by decide +kernel
theorem dX11_compares_1 : decode cX11_compares 1 = .ok (.istore_n 1, 1) := by decide +kernel
theorem dX11_compares_2 : decode cX11_compares 2 = .ok (.iconst 0, 1) := by decide +kernel
theorem dX11_compares_3 : decode cX11_compares 3 = .ok (.istore_n 2, 1) := by decide +kernel
theorem dX11_compares_4 : decode cX11_compares 4 = .ok (.iload_n 2, 1) := by decide +kernel
theorem dX11_compares_5 : decode cX11_compares 5 = .ok (.aload_n 0, 1) := by decide +kernel
theorem dX11_compares_6 : decode cX11_compares 6 = .ok (.getfield 277, 3) := by decide +kernel
theorem dX11_compares_9 : decode cX11_compares 9 = .ok (.if_icmp .ge 28, 3) := by decide +kernel
theorem dX11_compares_12 : decode cX11_compares 12 = .ok (.iload_n 1, 1) := by decide +kernel
theorem dX11_compares_13 : decode cX11_compares 13 = .ok (.aload_n 0, 1) := by decide +kernel
theorem dX11_compares_14 : decode cX11_compares 14 = .ok (.getfield 93, 3) := by decide +kernel
theorem dX11_compares_17 : decode cX11_compares 17 = .ok (.bipush 9, 2) := by decide +kernel
theorem dX11_compares_19 : decode cX11_compares 19 = .ok (.iload_n 2, 1) := by decide +kernel
theorem dX11_compares_20 : decode cX11_compares 20 = .ok (.imul, 1) := by decide +kernel
theorem dX11_compares_21 : decode cX11_compares 21 = .ok (.aload_n 0, 1) := by decide +kernel
theorem dX11_compares_22 : decode cX11_compares 22 = .ok (.getfield 96, 3) := by decide +kernel
theorem dX11_compares_25 : decode cX11_compares 25 = .ok (.iload_n 2, 1) := by decide +kernel
theorem dX11_compares_26 : decode cX11_compares 26 = .ok (.iaload, 1) := by decide +kernel
theorem dX11_compares_27 : decode cX11_compares 27 = .ok (.iadd, 1) := by decide +kernel
theorem dX11_compares_28 : decode cX11_compares 28 = .ok (.iaload, 1) := by decide +kernel
theorem dX11_compares_29 : decode cX11_compares 29 = .ok (.iadd, 1) := by decide +kernel
theorem dX11_compares_30 : decode cX11_compares 30 = .ok (.istore_n 1, 1) := by decide +kernel
theorem dX11_compares_31 : decode cX11_compares 31 = .ok (.iinc 2 1, 3) := by decide +kernel
theorem dX11_compares_34 : decode cX11_compares 34 = .ok (.goto (-30), 3) := by decide +kernel
theorem dX11_compares_37 : decode cX11_compares 37 = .ok (.iload_n 1, 1) := by decide +kernel
theorem dX11_compares_38 : decode cX11_compares 38 = .ok (.aload_n 0, 1) := by decide +kernel
theorem dX11_compares_39 : decode cX11_compares 39 = .ok (.getfield 280, 3) := by decide +kernel
theorem dX11_compares_42 : decode cX11_compares 42 = .ok (.if_icmp .le 36, 3) := by decide +kernel
theorem dX11_compares_45 : decode cX11_compares 45 = .ok (.aload_n 0, 1) := by decide +kernel
theorem dX11_compares_46 : decode cX11_compares 46 = .ok (.iload_n 1, 1) := by decide +kernel
theorem dX11_compares_47 : decode cX11_compares 47 = .ok (.putfield 280, 3) := by decide +kernel
theorem dX11_compares_50 : decode cX11_compares 50 = .ok (.iconst 0, 1) := by decide +kernel
theorem dX11_compares_51 : decode cX11_compares 51 = .ok (.istore_n 2, 1) := by decide +kernel
theorem dX11_compares_52 : decode cX11_compares 52 = .ok (.iload_n 2, 1) := by decide +kernel
theorem dX11_compares_53 : decode cX11_compares 53 = .ok (.aload_n 0, 1) := by decide +kernel
theorem dX11_compares_54 : decode cX11_compares 54 = .ok (.getfield 277, 3) := by decide +kernel
theorem dX11_compares_57 : decode cX11_compares 57 = .ok (.if_icmp .ge 21, 3) := by decide +kernel
theorem dX11_compares_60 : decode cX11_compares 60 = .ok (.aload_n 0, 1) := by decide +kernel
theorem dX11_compares_61 : decode cX11_compares 61 = .ok (.getfield 99, 3) := by decide +kernel
theorem dX11_compares_64 : decode cX11_compares 64 = .ok (.iload_n 2, 1) := by decide +kernel
theorem dX11_compares_65 : decode cX11_compares 65 = .ok (.aload_n 0, 1) := by decide +kernel
theorem dX11_compares_66 : decode cX11_compares 66 = .ok (.getfield 96, 3) := by decide +kernel
theorem dX11_compares_69 : decode cX11_compares 69 = .ok (.iload_n 2, 1) := by decide +kernel
theorem dX11_compares_70 : decode cX11_compares 70 = .ok (.iaload, 1) := by decide +kernel
theorem dX11_compares_71 : decode cX11_compares 71 = .ok (.iastore, 1) := by decide +kernel
theorem dX11_compares_72 : decode cX11_compares 72 = .ok (.iinc 2 1, 3) := by decide +kernel
theorem dX11_compares_75 : decode cX11_compares 75 = .ok (.goto (-23), 3) := by decide +kernel
theorem dX11_compares_78 : decode cX11_compares 78 = .ok (.return_, 1) := by decide +kernel
theorem dX11_orders_0 : decode cX11_orders 0 = .ok (.aload_n 0, 1) := by decide +kernel
theorem dX11_orders_1 : decode cX11_orders 1 = .ok (.iconst 0, 1) := by decide +kernel
theorem dX11_orders_2 : decode cX11_orders 2 = .ok (.putfield 277, 3) := by decide +kernel
theorem dX11_orders_5 : decode cX11_orders 5 = .ok (.iconst 0, 1) := by decide +kernel
theorem dX11_orders_6 : decode cX11_orders 6 = .ok (.istore_n 1, 1) := by decide +kernel
theorem dX11_orders_7 : decode cX11_orders 7 = .ok (.iload_n 1, 1) := by decide +kernel
theorem dX11_orders_8 : decode cX11_orders 8 = .ok (.iconst 5, 1) := by decide +kernel
theorem dX11_orders_9 : decode cX11_orders 9 = .ok (.if_icmp .ge 39, 3) := by decide +kernel
theorem dX11_orders_12 : decode cX11_orders 12 = .ok (.aload_n 0, 1) := by decide +kernel
theorem dX11_orders_13 : decode cX11_orders 13 = .ok (.getfield 78, 3) := by decide +kernel
theorem dX11_orders_16 : decode cX11_orders 16 = .ok (.iload_n 1, 1) := by decide +kernel
theorem dX11_orders_17 : decode cX11_orders 17 = .ok (.iaload, 1) := by decide +kernel
theorem dX11_orders_18 : decode cX11_orders 18 = .ok (.iconst (-1), 1) := by decide +kernel
theorem dX11_orders_19 : decode cX11_orders 19 = .ok (.if_icmp .lt 23, 3) := by decide +kernel
theorem dX11_orders_22 : decode cX11_orders 22 = .ok (.aload_n 0, 1) := by decide +kernel
theorem dX11_orders_23 : decode cX11_orders 23 = .ok (.getfield 90, 3) := by decide +kernel
theorem dX11_orders_26 : decode cX11_orders 26 = .ok (.aload_n 0, 1) := by decide +kernel
theorem dX11_orders_27 : decode cX11_orders 27 = .ok (.getfield 277, 3) := by decide +kernel
theorem dX11_orders_30 : decode cX11_orders 30 = .ok (.iload_n 1, 1) := by decide +kernel
theorem dX11_orders_31 : decode cX11_orders 31 = .ok (.iastore, 1) := by decide +kernel
theorem dX11_orders_32 : decode cX11_orders 32 = .ok (.aload_n 0, 1) := by decide +kernel
theorem dX11_orders_33 : decode cX11_orders 33 = .ok (.dup, 1) := by decide +kernel
theorem dX11_orders_34 : decode cX11_orders 34 = .ok (.getfield 277, 3) := by decide +kernel
theorem dX11_orders_37 : decode cX11_orders 37 = .ok (.iconst 1, 1) := by decide +kernel
theorem dX11_orders_38 : decode cX11_orders 38 = .ok (.iadd, 1) := by decide +kernel
theorem dX11_orders_39 : decode cX11_orders 39 = .ok (.putfield 277, 3) := by decide +kernel
theorem dX11_orders_42 : decode cX11_orders 42 = .ok (.iinc 1 1, 3) := by decide +kernel
theorem dX11_orders_45 : decode cX11_orders 45 = .ok (.goto (-38), 3) := by decide +kernel
theorem dX11_orders_48 : decode cX11_orders 48 = .ok (.aload_n 0, 1) := by decide +kernel
theorem dX11_orders_49 : decode cX11_orders 49 = .ok (.getfield 277, 3) := by decide +kernel
theorem dX11_orders_52 : decode cX11_orders 52 = .ok (.ifCond .ne 6, 3) := by decide +kernel
theorem dX11_orders_55 : decode cX11_orders 55 = .ok (.bipush (-2), 2) := by decide +kernel
theorem dX11_orders_57 : decode cX11_orders 57 = .ok (.ireturn, 1) := by decide +kernel
theorem dX11_orders_58 : decode cX11_orders 58 = .ok (.aload_n 0, 1) := by decide +kernel
theorem dX11_orders_59 : decode cX11_orders 59 = .ok (.invokevirtual 283, 3) := by decide +kernel
theorem dX11_orders_62 : decode cX11_orders 62 = .ok (.aload_n 0, 1) := by decide +kernel
theorem dX11_orders_63 : decode cX11_orders 63 = .ok (.getfield 277, 3) := by decide +kernel
theorem dX11_orders_66 : decode cX11_orders 66 = .ok (.if_icmp .ge 6, 3) := by decide +kernel
theorem dX11_orders_69 : decode cX11_orders 69 = .ok (.bipush (-4), 2) := by decide +kernel
theorem dX11_orders_71 : decode cX11_orders 71 = .ok (.ireturn, 1) := by decide +kernel
theorem dX11_orders_72 : decode cX11_orders 72 = .ok (.iconst 0, 1) := by decide +kernel
theorem dX11_orders_73 : decode cX11_orders 73 = .ok (.istore_n 1, 1) := by decide +kernel
theorem dX11_orders_74 : decode cX11_orders 74 = .ok (.iload_n 1, 1) := by decide +kernel
theorem dX11_orders_75 : decode cX11_orders 75 = .ok (.aload_n 0, 1) := by decide +kernel
theorem dX11_orders_76 : decode cX11_orders 76 = .ok (.getfield 277, 3) := by decide +kernel
theorem dX11_orders_79 : decode cX11_orders 79 = .ok (.if_icmp .ge 52, 3) := by decide +kernel
theorem dX11_orders_82 : decode cX11_orders 82 = .ok (.iconst 0, 1) := by decide +kernel
theorem dX11_orders_83 : decode cX11_orders 83 = .ok (.istore_n 2, 1) := by decide +kernel
theorem dX11_orders_84 : decode cX11_orders 84 = .ok (.iload_n 2, 1) := by decide +kernel
theorem dX11_orders_85 : decode cX11_orders 85 = .ok (.aload_n 0, 1) := by decide +kernel
theorem dX11_orders_86 : decode cX11_orders 86 = .ok (.getfield 144, 3) := by decide +kernel
theorem dX11_orders_89 : decode cX11_orders 89 = .ok (.if_icmp .ge 36, 3) := by decide +kernel
theorem dX11_orders_92 : decode cX11_orders 92 = .ok (.aload_n 0, 1) := by decide +kernel
theorem dX11_orders_93 : decode cX11_orders 93 = .ok (.getfield 93, 3) := by decide +kernel
theorem dX11_orders_96 : decode cX11_orders 96 = .ok (.bipush 9, 2) := by decide +kernel
theorem dX11_orders_98 : decode cX11_orders 98 = .ok (.iload_n 1, 1) := by decide +kernel
theorem dX11_orders_99 : decode cX11_orders 99 = .ok (.imul, 1) := by decide +kernel
theorem dX11_orders_100 : decode cX11_orders 100 = .ok (.iload_n 2, 1) := by decide +kernel
theorem dX11_orders_101 : decode cX11_orders 101 = .ok (.iadd, 1) := by decide +kernel
theorem dX11_orders_102 : decode cX11_orders 102 = .ok (.aload_n 0, 1) := by decide +kernel
theorem dX11_orders_103 : decode cX11_orders 103 = .ok (.iload_n 2, 1) := by decide +kernel
theorem dX11_orders_104 : decode cX11_orders 104 = .ok (.aload_n 0, 1) := by decide +kernel
theorem dX11_orders_105 : decode cX11_orders 105 = .ok (.getfield 78, 3) := by decide +kernel
theorem dX11_orders_108 : decode cX11_orders 108 = .ok (.aload_n 0, 1) := by decide +kernel
theorem dX11_orders_109 : decode cX11_orders 109 = .ok (.getfield 90, 3) := by decide +kernel
theorem dX11_orders_112 : decode cX11_orders 112 = .ok (.iload_n 1, 1) := by decide +kernel
theorem dX11_orders_113 : decode cX11_orders 113 = .ok (.iaload, 1) := by decide +kernel
theorem dX11_orders_114 : decode cX11_orders 114 = .ok (.iaload, 1) := by decide +kernel
theorem dX11_orders_115 : decode cX11_orders 115 = .ok (.invokevirtual 273, 3) := by decide +kernel
theorem dX11_orders_118 : decode cX11_orders 118 = .ok (.iastore, 1) := by decide +kernel
theorem dX11_orders_119 : decode cX11_orders 119 = .ok (.iinc 2 1, 3) := by decide +kernel
theorem dX11_orders_122 : decode cX11_orders 122 = .ok (.goto (-38), 3) := by decide +kernel
theorem dX11_orders_125 : decode cX11_orders 125 = .ok (.iinc 1 1, 3) := by decide +kernel
theorem dX11_orders_128 : decode cX11_orders 128 = .ok (.goto (-54), 3) := by decide +kernel
theorem dX11_orders_131 : decode cX11_orders 131 = .ok (.aload_n 0, 1) := by decide +kernel
theorem dX11_orders_132 : decode cX11_orders 132 = .ok (.iconst (-1), 1) := by decide +kernel
theorem dX11_orders_133 : decode cX11_orders 133 = .ok (.putfield 280, 3) := by decide +kernel
theorem dX11_orders_136 : decode cX11_orders 136 = .ok (.iconst 0, 1) := by decide +kernel
theorem dX11_orders_137 : decode cX11_orders 137 = .ok (.istore_n 1, 1) := by decide +kernel
theorem dX11_orders_138 : decode cX11_orders 138 = .ok (.aload_n 0, 1) := by decide +kernel
theorem dX11_orders_139 : decode cX11_orders 139 = .ok (.getfield 96, 3) := by decide +kernel
theorem dX11_orders_142 : decode cX11_orders 142 = .ok (.iconst 0, 1) := by decide +kernel
theorem dX11_orders_143 : decode cX11_orders 143 = .ok (.iconst (-1), 1) := by decide +kernel
theorem dX11_orders_144 : decode cX11_orders 144 = .ok (.iastore, 1) := by decide +kernel
theorem dX11_orders_145 : decode cX11_orders 145 = .ok (.iload_n 1, 1) := by decide +kernel
theorem dX11_orders_146 : decode cX11_orders 146 = .ok (.ifCond .lt 76, 3) := by decide +kernel
theorem dX11_orders_149 : decode cX11_orders 149 = .ok (.aload_n 0, 1) := by decide +kernel
theorem dX11_orders_150 : decode cX11_orders 150 = .ok (.getfield 96, 3) := by decide +kernel
theorem dX11_orders_153 : decode cX11_orders 153 = .ok (.iload_n 1, 1) := by decide +kernel
theorem dX11_orders_154 : decode cX11_orders 154 = .ok (.dup2, 1) := by decide +kernel
theorem dX11_orders_155 : decode cX11_orders 155 = .ok (.iaload, 1) := by decide +kernel
theorem dX11_orders_156 : decode cX11_orders 156 = .ok (.iconst 1, 1) := by decide +kernel
theorem dX11_orders_157 : decode cX11_orders 157 = .ok (.iadd, 1) := by decide +kernel
theorem dX11_orders_158 : decode cX11_orders 158 = .ok (.iastore, 1) := by decide +kernel
theorem dX11_orders_159 : decode cX11_orders 159 = .ok (.aload_n 0, 1) := by decide +kernel
theorem dX11_orders_160 : decode cX11_orders 160 = .ok (.getfield 96, 3) := by decide +kernel
theorem dX11_orders_163 : decode cX11_orders 163 = .ok (.iload_n 1, 1) := by decide +kernel
theorem dX11_orders_164 : decode cX11_orders 164 = .ok (.iaload, 1) := by decide +kernel
theorem dX11_orders_165 : decode cX11_orders 165 = .ok (.aload_n 0, 1) := by decide +kernel
theorem dX11_orders_166 : decode cX11_orders 166 = .ok (.getfield 144, 3) := by decide +kernel
theorem dX11_orders_169 : decode cX11_orders 169 = .ok (.if_icmp .ne 9, 3) := by decide +kernel
theorem dX11_orders_172 : decode cX11_orders 172 = .ok (.iinc 1 (-1), 3) := by decide +kernel
theorem dX11_orders_175 : decode cX11_orders 175 = .ok (.goto (-30), 3) := by decide +kernel
theorem dX11_orders_178 : decode cX11_orders 178 = .ok (.aload_n 0, 1) := by decide +kernel
theorem dX11_orders_179 : decode cX11_orders 179 = .ok (.iload_n 1, 1) := by decide +kernel
theorem dX11_orders_180 : decode cX11_orders 180 = .ok (.aload_n 0, 1) := by decide +kernel
theorem dX11_orders_181 : decode cX11_orders 181 = .ok (.getfield 96, 3) := by decide +kernel
theorem dX11_orders_184 : decode cX11_orders 184 = .ok (.iload_n 1, 1) := by decide +kernel
theorem dX11_orders_185 : decode cX11_orders 185 = .ok (.iaload, 1) := by decide +kernel
theorem dX11_orders_186 : decode cX11_orders 186 = .ok (.invokevirtual 286, 3) := by decide +kernel
theorem dX11_orders_189 : decode cX11_orders 189 = .ok (.ifCond .eq (-44), 3) := by decide +kernel
theorem dX11_orders_192 : decode cX11_orders 192 = .ok (.iload_n 1, 1) := by decide +kernel
theorem dX11_orders_193 : decode cX11_orders 193 = .ok (.aload_n 0, 1) := by decide +kernel
theorem dX11_orders_194 : decode cX11_orders 194 = .ok (.getfield 277, 3) := by decide +kernel
theorem dX11_orders_197 : decode cX11_orders 197 = .ok (.iconst 1, 1) := by decide +kernel
theorem dX11_orders_198 : decode cX11_orders 198 = .ok (.isub, 1) := by decide +kernel
theorem dX11_orders_199 : decode cX11_orders 199 = .ok (.if_icmp .ne 10, 3) := by decide +kernel
theorem dX11_orders_202 : decode cX11_orders 202 = .ok (.aload_n 0, 1) := by decide +kernel
theorem dX11_orders_203 : decode cX11_orders 203 = .ok (.invokevirtual 290, 3) := by decide +kernel
theorem dX11_orders_206 : decode cX11_orders 206 = .ok (.goto (-61), 3) := by decide +kernel
theorem dX11_orders_209 : decode cX11_orders 209 = .ok (.iinc 1 1, 3) := by decide +kernel
theorem dX11_orders_212 : decode cX11_orders 212 = .ok (.aload_n 0, 1) := by decide +kernel
theorem dX11_orders_213 : decode cX11_orders 213 = .ok (.getfield 96, 3) := by decide +kernel
theorem dX11_orders_216 : decode cX11_orders 216 = .ok (.iload_n 1, 1) := by decide +kernel
theorem dX11_orders_217 : decode cX11_orders 217 = .ok (.iconst (-1), 1) := by decide +kernel
theorem dX11_orders_218 : decode cX11_orders 218 = .ok (.iastore, 1) := by decide +kernel
theorem dX11_orders_219 : decode cX11_orders 219 = .ok (.goto (-74), 3) := by decide +kernel
theorem dX11_orders_222 : decode cX11_orders 222 = .ok (.aload_n 0, 1) := by decide +kernel
theorem dX11_orders_223 : decode cX11_orders 223 = .ok (.getfield 280, 3) := by decide +kernel
theorem dX11_orders_226 : decode cX11_orders 226 = .ok (.ireturn, 1) := by decide +kernel
theorem dX11_best_0 : decode cX11_best 0 = .ok (.aload_n 0, 1) := by decide +kernel
theorem dX11_best_1 : decode cX11_best 1 = .ok (.invokevirtual 293, 3) := by decide +kernel
theorem dX11_best_4 : decode cX11_best 4 = .ok (.ireturn, 1) := by decide +kernel
theorem dX11_order_0 : decode cX11_order 0 = .ok (.iload_n 1, 1) := by decide +kernel
theorem dX11_order_1 : decode cX11_order 1 = .ok (.i2l, 1) := by decide +kernel
theorem dX11_order_2 : decode cX11_order 2 = .ok (.lconst 0, 1) := by decide +kernel
theorem dX11_order_3 : decode cX11_order 3 = .ok (.ldc2_w 258, 3) := by decide +kernel
theorem dX11_order_6 : decode cX11_order 6 = .ok (.invokestatic 127, 3) := by decide +kernel
theorem dX11_order_9 : decode cX11_order 9 = .ok (.ifCond .eq 14, 3) := by decide +kernel
theorem dX11_order_12 : decode cX11_order 12 = .ok (.aload_n 0, 1) := by decide +kernel
theorem dX11_order_13 : decode cX11_order 13 = .ok (.getfield 78, 3) := by decide +kernel
theorem dX11_order_16 : decode cX11_order 16 = .ok (.iload_n 1, 1) := by decide +kernel
theorem dX11_order_17 : decode cX11_order 17 = .ok (.iaload, 1) := by decide +kernel
theorem dX11_order_18 : decode cX11_order 18 = .ok (.bipush (-2), 2) := by decide +kernel
theorem dX11_order_20 : decode cX11_order 20 = .ok (.if_icmp .ne 5, 3) := by decide +kernel
theorem dX11_order_23 : decode cX11_order 23 = .ok (.iconst (-1), 1) := by decide +kernel
theorem dX11_order_24 : decode cX11_order 24 = .ok (.ireturn, 1) := by decide +kernel
theorem dX11_order_25 : decode cX11_order 25 = .ok (.aload_n 0, 1) := by decide +kernel
theorem dX11_order_26 : decode cX11_order 26 = .ok (.invokevirtual 293, 3) := by decide +kernel
theorem dX11_order_29 : decode cX11_order 29 = .ok (.istore_n 2, 1) := by decide +kernel
theorem dX11_order_30 : decode cX11_order 30 = .ok (.iload_n 2, 1) := by decide +kernel
theorem dX11_order_31 : decode cX11_order 31 = .ok (.ifCond .ge 5, 3) := by decide +kernel
theorem dX11_order_34 : decode cX11_order 34 = .ok (.iload_n 2, 1) := by decide +kernel
theorem dX11_order_35 : decode cX11_order 35 = .ok (.ireturn, 1) := by decide +kernel
theorem dX11_order_36 : decode cX11_order 36 = .ok (.iconst 0, 1) := by decide +kernel
theorem dX11_order_37 : decode cX11_order 37 = .ok (.istore_n 3, 1) := by decide +kernel
theorem dX11_order_38 : decode cX11_order 38 = .ok (.aload_n 0, 1) := by decide +kernel
theorem dX11_order_39 : decode cX11_order 39 = .ok (.getfield 90, 3) := by decide +kernel
theorem dX11_order_42 : decode cX11_order 42 = .ok (.iload_n 3, 1) := by decide +kernel
theorem dX11_order_43 : decode cX11_order 43 = .ok (.iaload, 1) := by decide +kernel
theorem dX11_order_44 : decode cX11_order 44 = .ok (.iload_n 1, 1) := by decide +kernel
theorem dX11_order_45 : decode cX11_order 45 = .ok (.if_icmp .eq 9, 3) := by decide +kernel
theorem dX11_order_48 : decode cX11_order 48 = .ok (.iinc 3 1, 3) := by decide +kernel
theorem dX11_order_51 : decode cX11_order 51 = .ok (.goto (-13), 3) := by decide +kernel
theorem dX11_order_54 : decode cX11_order 54 = .ok (.aload_n 0, 1) := by decide +kernel
theorem dX11_order_55 : decode cX11_order 55 = .ok (.getfield 99, 3) := by decide +kernel
theorem dX11_order_58 : decode cX11_order 58 = .ok (.iload_n 3, 1) := by decide +kernel
theorem dX11_order_59 : decode cX11_order 59 = .ok (.iaload, 1) := by decide +kernel
theorem dX11_order_60 : decode cX11_order 60 = .ok (.ireturn, 1) := by decide +kernel
theorem dX11_isRow_0 : decode cX11_isRow 0 = .ok (.aload_n 0, 1) := by decide +kernel
theorem dX11_isRow_1 : decode cX11_isRow 1 = .ok (.lload_n 1, 1) := by decide +kernel
theorem dX11_isRow_2 : decode cX11_isRow 2 = .ok (.lload_n 3, 1) := by decide +kernel
theorem dX11_isRow_3 : decode cX11_isRow 3 = .ok (.lload 5, 2) := by decide +kernel
theorem dX11_isRow_5 : decode cX11_isRow 5 = .ok (.lload 7, 2) := by decide +kernel
theorem dX11_isRow_7 : decode cX11_isRow 7 = .ok (.lload 9, 2) := by decide +kernel
theorem dX11_isRow_9 : decode cX11_isRow 9 = .ok (.invokevirtual 229, 3) := by decide +kernel
theorem dX11_isRow_12 : decode cX11_isRow 12 = .ok (.ifCond .eq 35, 3) := by decide +kernel
theorem dX11_isRow_15 : decode cX11_isRow 15 = .ok (.lload 11, 2) := by decide +kernel
theorem dX11_isRow_17 : decode cX11_isRow 17 = .ok (.ldc2_w 296, 3) := by decide +kernel
theorem dX11_isRow_20 : decode cX11_isRow 20 = .ok (.ldc2_w 298, 3) := by decide +kernel
theorem dX11_isRow_23 : decode cX11_isRow 23 = .ok (.invokestatic 127, 3) := by decide +kernel
theorem dX11_isRow_26 : decode cX11_isRow 26 = .ok (.ifCond .eq 21, 3) := by decide +kernel
theorem dX11_isRow_29 : decode cX11_isRow 29 = .ok (.lload 13, 2) := by decide +kernel
theorem dX11_isRow_31 : decode cX11_isRow 31 = .ok (.ldc2_w 296, 3) := by decide +kernel
theorem dX11_isRow_34 : decode cX11_isRow 34 = .ok (.ldc2_w 298, 3) := by decide +kernel
theorem dX11_isRow_37 : decode cX11_isRow 37 = .ok (.invokestatic 127, 3) := by decide +kernel
theorem dX11_isRow_40 : decode cX11_isRow 40 = .ok (.ifCond .eq 7, 3) := by decide +kernel
theorem dX11_isRow_43 : decode cX11_isRow 43 = .ok (.iconst 1, 1) := by decide +kernel
theorem dX11_isRow_44 : decode cX11_isRow 44 = .ok (.goto 4, 3) := by decide +kernel
theorem dX11_isRow_47 : decode cX11_isRow 47 = .ok (.iconst 0, 1) := by decide +kernel
theorem dX11_isRow_48 : decode cX11_isRow 48 = .ok (.ireturn, 1) := by decide +kernel
theorem dX11_put_0 : decode cX11_put 0 = .ok (.bipush 7, 2) := by decide +kernel
theorem dX11_put_2 : decode cX11_put 2 = .ok (.aload_n 0, 1) := by decide +kernel
theorem dX11_put_3 : decode cX11_put 3 = .ok (.getfield 300, 3) := by decide +kernel
theorem dX11_put_6 : decode cX11_put 6 = .ok (.imul, 1) := by decide +kernel
theorem dX11_put_7 : decode cX11_put 7 = .ok (.istore 8, 2) := by decide +kernel
theorem dX11_put_9 : decode cX11_put 9 = .ok (.aload_n 0, 1) := by decide +kernel
theorem dX11_put_10 : decode cX11_put 10 = .ok (.getfield 102, 3) := by decide +kernel
theorem dX11_put_13 : decode cX11_put 13 = .ok (.iload 8, 2) := by decide +kernel
theorem dX11_put_15 : decode cX11_put 15 = .ok (.iload_n 1, 1) := by decide +kernel
theorem dX11_put_16 : decode cX11_put 16 = .ok (.iastore, 1) := by decide +kernel
theorem dX11_put_17 : decode cX11_put 17 = .ok (.aload_n 0, 1) := by decide +kernel
theorem dX11_put_18 : decode cX11_put 18 = .ok (.getfield 102, 3) := by decide +kernel
theorem dX11_put_21 : decode cX11_put 21 = .ok (.iload 8, 2) := by decide +kernel
theorem dX11_put_23 : decode cX11_put 23 = .ok (.iconst 1, 1) := by decide +kernel
theorem dX11_put_24 : decode cX11_put 24 = .ok (.iadd, 1) := by decide +kernel
theorem dX11_put_25 : decode cX11_put 25 = .ok (.iload_n 2, 1) := by decide +kernel
theorem dX11_put_26 : decode cX11_put 26 = .ok (.iastore, 1) := by decide +kernel
theorem dX11_put_27 : decode cX11_put 27 = .ok (.aload_n 0, 1) := by decide +kernel
theorem dX11_put_28 : decode cX11_put 28 = .ok (.getfield 102, 3) := by decide +kernel
theorem dX11_put_31 : decode cX11_put 31 = .ok (.iload 8, 2) := by decide +kernel
theorem dX11_put_33 : decode cX11_put 33 = .ok (.iconst 2, 1) := by decide +kernel
theorem dX11_put_34 : decode cX11_put 34 = .ok (.iadd, 1) := by decide +kernel
theorem dX11_put_35 : decode cX11_put 35 = .ok (.iload_n 3, 1) := by decide +kernel
theorem dX11_put_36 : decode cX11_put 36 = .ok (.iastore, 1) := by decide +kernel
theorem dX11_put_37 : decode cX11_put 37 = .ok (.aload_n 0, 1) := by decide +kernel
theorem dX11_put_38 : decode cX11_put 38 = .ok (.getfield 102, 3) := by decide +kernel
theorem dX11_put_41 : decode cX11_put 41 = .ok (.iload 8, 2) := by decide +kernel
theorem dX11_put_43 : decode cX11_put 43 = .ok (.iconst 3, 1) := by decide +kernel
theorem dX11_put_44 : decode cX11_put 44 = .ok (.iadd, 1) := by decide +kernel
theorem dX11_put_45 : decode cX11_put 45 = .ok (.iload 4, 2) := by decide +kernel
theorem dX11_put_47 : decode cX11_put 47 = .ok (.iastore, 1) := by decide +kernel
theorem dX11_put_48 : decode cX11_put 48 = .ok (.aload_n 0, 1) := by decide +kernel
theorem dX11_put_49 : decode cX11_put 49 = .ok (.getfield 102, 3) := by decide +kernel
theorem dX11_put_52 : decode cX11_put 52 = .ok (.iload 8, 2) := by decide +kernel
theorem dX11_put_54 : decode cX11_put 54 = .ok (.iconst 4, 1) := by decide +kernel
theorem dX11_put_55 : decode cX11_put 55 = .ok (.iadd, 1) := by decide +kernel
theorem dX11_put_56 : decode cX11_put 56 = .ok (.iload 5, 2) := by decide +kernel
theorem dX11_put_58 : decode cX11_put 58 = .ok (.iastore, 1) := by decide +kernel
theorem dX11_put_59 : decode cX11_put 59 = .ok (.aload_n 0, 1) := by decide +kernel
theorem dX11_put_60 : decode cX11_put 60 = .ok (.getfield 102, 3) := by decide +kernel
theorem dX11_put_63 : decode cX11_put 63 = .ok (.iload 8, 2) := by decide +kernel
theorem dX11_put_65 : decode cX11_put 65 = .ok (.iconst 5, 1) := by decide +kernel
theorem dX11_put_66 : decode cX11_put 66 = .ok (.iadd, 1) := by decide +kernel
theorem dX11_put_67 : decode cX11_put 67 = .ok (.iload 6, 2) := by decide +kernel
theorem dX11_put_69 : decode cX11_put 69 = .ok (.iastore, 1) := by decide +kernel
theorem dX11_put_70 : decode cX11_put 70 = .ok (.aload_n 0, 1) := by decide +kernel
theorem dX11_put_71 : decode cX11_put 71 = .ok (.getfield 102, 3) := by decide +kernel
theorem dX11_put_74 : decode cX11_put 74 = .ok (.iload 8, 2) := by decide +kernel
theorem dX11_put_76 : decode cX11_put 76 = .ok (.bipush 6, 2) := by decide +kernel
theorem dX11_put_78 : decode cX11_put 78 = .ok (.iadd, 1) := by decide +kernel
theorem dX11_put_79 : decode cX11_put 79 = .ok (.iload 7, 2) := by decide +kernel
theorem dX11_put_81 : decode cX11_put 81 = .ok (.iastore, 1) := by decide +kernel
theorem dX11_put_82 : decode cX11_put 82 = .ok (.aload_n 0, 1) := by decide +kernel
theorem dX11_put_83 : decode cX11_put 83 = .ok (.dup, 1) := by decide +kernel
theorem dX11_put_84 : decode cX11_put 84 = .ok (.getfield 300, 3) := by decide +kernel
theorem dX11_put_87 : decode cX11_put 87 = .ok (.iconst 1, 1) := by decide +kernel
theorem dX11_put_88 : decode cX11_put 88 = .ok (.iadd, 1) := by decide +kernel
theorem dX11_put_89 : decode cX11_put 89 = .ok (.putfield 300, 3) := by decide +kernel
theorem dX11_put_92 : decode cX11_put 92 = .ok (.return_, 1) := by decide +kernel
theorem dX11_row_0 : decode cX11_row 0 = .ok (.aload_n 0, 1) := by decide +kernel
theorem dX11_row_1 : decode cX11_row 1 = .ok (.iload_n 1, 1) := by decide +kernel
theorem dX11_row_2 : decode cX11_row 2 = .ok (.i2l, 1) := by decide +kernel
theorem dX11_row_3 : decode cX11_row 3 = .ok (.iload_n 2, 1) := by decide +kernel
theorem dX11_row_4 : decode cX11_row 4 = .ok (.i2l, 1) := by decide +kernel
theorem dX11_row_5 : decode cX11_row 5 = .ok (.iload_n 3, 1) := by decide +kernel
theorem dX11_row_6 : decode cX11_row 6 = .ok (.i2l, 1) := by decide +kernel
theorem dX11_row_7 : decode cX11_row 7 = .ok (.iload 4, 2) := by decide +kernel
theorem dX11_row_9 : decode cX11_row 9 = .ok (.i2l, 1) := by decide +kernel
theorem dX11_row_10 : decode cX11_row 10 = .ok (.iload 5, 2) := by decide +kernel
theorem dX11_row_12 : decode cX11_row 12 = .ok (.i2l, 1) := by decide +kernel
theorem dX11_row_13 : decode cX11_row 13 = .ok (.iload 6, 2) := by decide +kernel
theorem dX11_row_15 : decode cX11_row 15 = .ok (.i2l, 1) := by decide +kernel
theorem dX11_row_16 : decode cX11_row 16 = .ok (.iload 7, 2) := by decide +kernel
theorem dX11_row_18 : decode cX11_row 18 = .ok (.i2l, 1) := by decide +kernel
theorem dX11_row_19 : decode cX11_row 19 = .ok (.invokevirtual 303, 3) := by decide +kernel
theorem dX11_row_22 : decode cX11_row 22 = .ok (.ifCond .ne 5, 3) := by decide +kernel
theorem dX11_row_25 : decode cX11_row 25 = .ok (.iconst (-1), 1) := by decide +kernel
theorem dX11_row_26 : decode cX11_row 26 = .ok (.ireturn, 1) := by decide +kernel
theorem dX11_row_27 : decode cX11_row 27 = .ok (.aload_n 0, 1) := by decide +kernel
theorem dX11_row_28 : decode cX11_row 28 = .ok (.getfield 300, 3) := by decide +kernel
theorem dX11_row_31 : decode cX11_row 31 = .ok (.bipush 30, 2) := by decide +kernel
theorem dX11_row_33 : decode cX11_row 33 = .ok (.if_icmp .ne 6, 3) := by decide +kernel
theorem dX11_row_36 : decode cX11_row 36 = .ok (.bipush (-3), 2) := by decide +kernel
theorem dX11_row_38 : decode cX11_row 38 = .ok (.ireturn, 1) := by decide +kernel
theorem dX11_row_39 : decode cX11_row 39 = .ok (.aload_n 0, 1) := by decide +kernel
theorem dX11_row_40 : decode cX11_row 40 = .ok (.iload_n 1, 1) := by decide +kernel
theorem dX11_row_41 : decode cX11_row 41 = .ok (.iload_n 2, 1) := by decide +kernel
theorem dX11_row_42 : decode cX11_row 42 = .ok (.iload_n 3, 1) := by decide +kernel
theorem dX11_row_43 : decode cX11_row 43 = .ok (.iload 4, 2) := by decide +kernel
theorem dX11_row_45 : decode cX11_row 45 = .ok (.iload 5, 2) := by decide +kernel
theorem dX11_row_47 : decode cX11_row 47 = .ok (.iload 6, 2) := by decide +kernel
theorem dX11_row_49 : decode cX11_row 49 = .ok (.iload 7, 2) := by decide +kernel
theorem dX11_row_51 : decode cX11_row 51 = .ok (.invokevirtual 307, 3) := by decide +kernel
theorem dX11_row_54 : decode cX11_row 54 = .ok (.aload_n 0, 1) := by decide +kernel
theorem dX11_row_55 : decode cX11_row 55 = .ok (.getfield 300, 3) := by decide +kernel
theorem dX11_row_58 : decode cX11_row 58 = .ok (.iconst 1, 1) := by decide +kernel
theorem dX11_row_59 : decode cX11_row 59 = .ok (.isub, 1) := by decide +kernel
theorem dX11_row_60 : decode cX11_row 60 = .ok (.ireturn, 1) := by decide +kernel
theorem dX11_size_0 : decode cX11_size 0 = .ok (.iload_n 0, 1) := by decide +kernel
theorem dX11_size_1 : decode cX11_size 1 = .ok (.ifCond .ge 8, 3) := by decide +kernel
theorem dX11_size_4 : decode cX11_size 4 = .ok (.iload_n 0, 1) := by decide +kernel
theorem dX11_size_5 : decode cX11_size 5 = .ok (.ineg, 1) := by decide +kernel
theorem dX11_size_6 : decode cX11_size 6 = .ok (.goto 4, 3) := by decide +kernel
theorem dX11_size_9 : decode cX11_size 9 = .ok (.iload_n 0, 1) := by decide +kernel
theorem dX11_size_10 : decode cX11_size 10 = .ok (.ireturn, 1) := by decide +kernel
theorem dX11_missOf_0 : decode cX11_missOf 0 = .ok (.bipush 7, 2) := by decide +kernel
theorem dX11_missOf_2 : decode cX11_missOf 2 = .ok (.iload_n 1, 1) := by decide +kernel
theorem dX11_missOf_3 : decode cX11_missOf 3 = .ok (.imul, 1) := by decide +kernel
theorem dX11_missOf_4 : decode cX11_missOf 4 = .ok (.istore_n 3, 1) := by decide +kernel
theorem dX11_missOf_5 : decode cX11_missOf 5 = .ok (.aload_n 0, 1) := by decide +kernel
theorem dX11_missOf_6 : decode cX11_missOf 6 = .ok (.aload_n 0, 1) := by decide +kernel
theorem dX11_missOf_7 : decode cX11_missOf 7 = .ok (.getfield 102, 3) := by decide +kernel
theorem dX11_missOf_10 : decode cX11_missOf 10 = .ok (.iload_n 3, 1) := by decide +kernel
theorem dX11_missOf_11 : decode cX11_missOf 11 = .ok (.iaload, 1) := by decide +kernel
theorem dX11_missOf_12 : decode cX11_missOf 12 = .ok (.iload_n 2, 1) := by decide +kernel
theorem dX11_missOf_13 : decode cX11_missOf 13 = .ok (.aload_n 0, 1) := by decide +kernel
theorem dX11_missOf_14 : decode cX11_missOf 14 = .ok (.getfield 102, 3) := by decide +kernel
theorem dX11_missOf_17 : decode cX11_missOf 17 = .ok (.iload_n 3, 1) := by decide +kernel
theorem dX11_missOf_18 : decode cX11_missOf 18 = .ok (.iconst 1, 1) := by decide +kernel
theorem dX11_missOf_19 : decode cX11_missOf 19 = .ok (.iadd, 1) := by decide +kernel
theorem dX11_missOf_20 : decode cX11_missOf 20 = .ok (.iaload, 1) := by decide +kernel
theorem dX11_missOf_21 : decode cX11_missOf 21 = .ok (.aload_n 0, 1) := by decide +kernel
theorem dX11_missOf_22 : decode cX11_missOf 22 = .ok (.getfield 102, 3) := by decide +kernel
theorem dX11_missOf_25 : decode cX11_missOf 25 = .ok (.iload_n 3, 1) := by decide +kernel
theorem dX11_missOf_26 : decode cX11_missOf 26 = .ok (.iconst 2, 1) := by decide +kernel
theorem dX11_missOf_27 : decode cX11_missOf 27 = .ok (.iadd, 1) := by decide +kernel
theorem dX11_missOf_28 : decode cX11_missOf 28 = .ok (.iaload, 1) := by decide +kernel
theorem dX11_missOf_29 : decode cX11_missOf 29 = .ok (.aload_n 0, 1) := by decide +kernel
theorem dX11_missOf_30 : decode cX11_missOf 30 = .ok (.getfield 102, 3) := by decide +kernel
theorem dX11_missOf_33 : decode cX11_missOf 33 = .ok (.iload_n 3, 1) := by decide +kernel
theorem dX11_missOf_34 : decode cX11_missOf 34 = .ok (.iconst 3, 1) := by decide +kernel
theorem dX11_missOf_35 : decode cX11_missOf 35 = .ok (.iadd, 1) := by decide +kernel
theorem dX11_missOf_36 : decode cX11_missOf 36 = .ok (.iaload, 1) := by decide +kernel
theorem dX11_missOf_37 : decode cX11_missOf 37 = .ok (.aload_n 0, 1) := by decide +kernel
theorem dX11_missOf_38 : decode cX11_missOf 38 = .ok (.getfield 102, 3) := by decide +kernel
theorem dX11_missOf_41 : decode cX11_missOf 41 = .ok (.iload_n 3, 1) := by decide +kernel
theorem dX11_missOf_42 : decode cX11_missOf 42 = .ok (.iconst 4, 1) := by decide +kernel
theorem dX11_missOf_43 : decode cX11_missOf 43 = .ok (.iadd, 1) := by decide +kernel
theorem dX11_missOf_44 : decode cX11_missOf 44 = .ok (.iaload, 1) := by decide +kernel
theorem dX11_missOf_45 : decode cX11_missOf 45 = .ok (.iconst (-1), 1) := by decide +kernel
theorem dX11_missOf_46 : decode cX11_missOf 46 = .ok (.invokevirtual 236, 3) := by decide +kernel
theorem dX11_missOf_49 : decode cX11_missOf 49 = .ok (.istore 4, 2) := by decide +kernel
theorem dX11_missOf_51 : decode cX11_missOf 51 = .ok (.aload_n 0, 1) := by decide +kernel
theorem dX11_missOf_52 : decode cX11_missOf 52 = .ok (.getfield 60, 3) := by decide +kernel
theorem dX11_missOf_55 : decode cX11_missOf 55 = .ok (.iconst 0, 1) := by decide +kernel
theorem dX11_missOf_56 : decode cX11_missOf 56 = .ok (.iaload, 1) := by decide +kernel
theorem dX11_missOf_57 : decode cX11_missOf 57 = .ok (.aload_n 0, 1) := by decide +kernel
theorem dX11_missOf_58 : decode cX11_missOf 58 = .ok (.getfield 102, 3) := by decide +kernel
theorem dX11_missOf_61 : decode cX11_missOf 61 = .ok (.iload_n 3, 1) := by decide +kernel
theorem dX11_missOf_62 : decode cX11_missOf 62 = .ok (.iconst 5, 1) := by decide +kernel
theorem dX11_missOf_63 : decode cX11_missOf 63 = .ok (.iadd, 1) := by decide +kernel
theorem dX11_missOf_64 : decode cX11_missOf 64 = .ok (.iaload, 1) := by decide +kernel
theorem dX11_missOf_65 : decode cX11_missOf 65 = .ok (.isub, 1) := by decide +kernel
theorem dX11_missOf_66 : decode cX11_missOf 66 = .ok (.invokestatic 311, 3) := by decide +kernel
theorem dX11_missOf_69 : decode cX11_missOf 69 = .ok (.aload_n 0, 1) := by decide +kernel
theorem dX11_missOf_70 : decode cX11_missOf 70 = .ok (.getfield 60, 3) := by decide +kernel
theorem dX11_missOf_73 : decode cX11_missOf 73 = .ok (.iconst 1, 1) := by decide +kernel
theorem dX11_missOf_74 : decode cX11_missOf 74 = .ok (.iaload, 1) := by decide +kernel
theorem dX11_missOf_75 : decode cX11_missOf 75 = .ok (.aload_n 0, 1) := by decide +kernel
theorem dX11_missOf_76 : decode cX11_missOf 76 = .ok (.getfield 102, 3) := by decide +kernel
theorem dX11_missOf_79 : decode cX11_missOf 79 = .ok (.iload_n 3, 1) := by decide +kernel
theorem dX11_missOf_80 : decode cX11_missOf 80 = .ok (.bipush 6, 2) := by decide +kernel
theorem dX11_missOf_82 : decode cX11_missOf 82 = .ok (.iadd, 1) := by decide +kernel
theorem dX11_missOf_83 : decode cX11_missOf 83 = .ok (.iaload, 1) := by decide +kernel
theorem dX11_missOf_84 : decode cX11_missOf 84 = .ok (.isub, 1) := by decide +kernel
theorem dX11_missOf_85 : decode cX11_missOf 85 = .ok (.invokestatic 311, 3) := by decide +kernel
theorem dX11_missOf_88 : decode cX11_missOf 88 = .ok (.iadd, 1) := by decide +kernel
theorem dX11_missOf_89 : decode cX11_missOf 89 = .ok (.istore 5, 2) := by decide +kernel
theorem dX11_missOf_91 : decode cX11_missOf 91 = .ok (.iload 4, 2) := by decide +kernel
theorem dX11_missOf_93 : decode cX11_missOf 93 = .ok (.ifCond .le 17, 3) := by decide +kernel
theorem dX11_missOf_96 : decode cX11_missOf 96 = .ok (.iload 5, 2) := by decide +kernel
theorem dX11_missOf_98 : decode cX11_missOf 98 = .ok (.sipush 9999, 3) := by decide +kernel
theorem dX11_missOf_101 : decode cX11_missOf 101 = .ok (.if_icmp .le 9, 3) := by decide +kernel
theorem dX11_missOf_104 : decode cX11_missOf 104 = .ok (.sipush 9999, 3) := by decide +kernel
theorem dX11_missOf_107 : decode cX11_missOf 107 = .ok (.goto 5, 3) := by decide +kernel
theorem dX11_missOf_110 : decode cX11_missOf 110 = .ok (.iload 5, 2) := by decide +kernel
theorem dX11_missOf_112 : decode cX11_missOf 112 = .ok (.ireturn, 1) := by decide +kernel
theorem dX11_miss_0 : decode cX11_miss 0 = .ok (.iload_n 1, 1) := by decide +kernel
theorem dX11_miss_1 : decode cX11_miss 1 = .ok (.i2l, 1) := by decide +kernel
theorem dX11_miss_2 : decode cX11_miss 2 = .ok (.lconst 0, 1) := by decide +kernel
theorem dX11_miss_3 : decode cX11_miss 3 = .ok (.aload_n 0, 1) := by decide +kernel
theorem dX11_miss_4 : decode cX11_miss 4 = .ok (.getfield 300, 3) := by decide +kernel
theorem dX11_miss_7 : decode cX11_miss 7 = .ok (.iconst 1, 1) := by decide +kernel
theorem dX11_miss_8 : decode cX11_miss 8 = .ok (.isub, 1) := by decide +kernel
theorem dX11_miss_9 : decode cX11_miss 9 = .ok (.i2l, 1) := by decide +kernel
theorem dX11_miss_10 : decode cX11_miss 10 = .ok (.invokestatic 127, 3) := by decide +kernel
theorem dX11_miss_13 : decode cX11_miss 13 = .ok (.ifCond .eq 26, 3) := by decide +kernel
theorem dX11_miss_16 : decode cX11_miss 16 = .ok (.iload_n 2, 1) := by decide +kernel
theorem dX11_miss_17 : decode cX11_miss 17 = .ok (.i2l, 1) := by decide +kernel
theorem dX11_miss_18 : decode cX11_miss 18 = .ok (.ldc2_w 161, 3) := by decide +kernel
theorem dX11_miss_21 : decode cX11_miss 21 = .ok (.ldc2_w 163, 3) := by decide +kernel
theorem dX11_miss_24 : decode cX11_miss 24 = .ok (.invokestatic 127, 3) := by decide +kernel
theorem dX11_miss_27 : decode cX11_miss 27 = .ok (.ifCond .eq 12, 3) := by decide +kernel
theorem dX11_miss_30 : decode cX11_miss 30 = .ok (.aload_n 0, 1) := by decide +kernel
theorem dX11_miss_31 : decode cX11_miss 31 = .ok (.iload_n 1, 1) := by decide +kernel
theorem dX11_miss_32 : decode cX11_miss 32 = .ok (.iload_n 2, 1) := by decide +kernel
theorem dX11_miss_33 : decode cX11_miss 33 = .ok (.invokevirtual 314, 3) := by decide +kernel
theorem dX11_miss_36 : decode cX11_miss 36 = .ok (.goto 4, 3) := by decide +kernel
theorem dX11_miss_39 : decode cX11_miss 39 = .ok (.iconst (-1), 1) := by decide +kernel
theorem dX11_miss_40 : decode cX11_miss 40 = .ok (.ireturn, 1) := by decide +kernel
theorem dX11_rowsOf_0 : decode cX11_rowsOf 0 = .ok (.iconst 0, 1) := by decide +kernel
theorem dX11_rowsOf_1 : decode cX11_rowsOf 1 = .ok (.istore_n 2, 1) := by decide +kernel
theorem dX11_rowsOf_2 : decode cX11_rowsOf 2 = .ok (.iconst 0, 1) := by decide +kernel
theorem dX11_rowsOf_3 : decode cX11_rowsOf 3 = .ok (.istore_n 3, 1) := by decide +kernel
theorem dX11_rowsOf_4 : decode cX11_rowsOf 4 = .ok (.iload_n 3, 1) := by decide +kernel
theorem dX11_rowsOf_5 : decode cX11_rowsOf 5 = .ok (.aload_n 0, 1) := by decide +kernel
theorem dX11_rowsOf_6 : decode cX11_rowsOf 6 = .ok (.getfield 300, 3) := by decide +kernel
theorem dX11_rowsOf_9 : decode cX11_rowsOf 9 = .ok (.if_icmp .ge 30, 3) := by decide +kernel
