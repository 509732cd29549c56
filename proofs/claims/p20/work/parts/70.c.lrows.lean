theorem dL_act_232 : decode cL_act 232 = .ok (.ishr, 1) := by decide +kernel
theorem dL_act_233 : decode cL_act 233 = .ok (.bipush 20, 2) := by decide +kernel
theorem dL_act_235 : decode cL_act 235 = .ok (.invokestatic 19, 3) := by decide +kernel
theorem dL_act_238 : decode cL_act 238 = .ok (.iadd, 1) := by decide +kernel
theorem dL_act_239 : decode cL_act 239 = .ok (.istore 11, 2) := by decide +kernel
theorem dL_act_241 : decode cL_act 241 = .ok (.iload_n 2, 1) := by decide +kernel
theorem dL_act_242 : decode cL_act 242 = .ok (.iconst 5, 1) := by decide +kernel
theorem dL_act_243 : decode cL_act 243 = .ok (.ishr, 1) := by decide +kernel
theorem dL_act_244 : decode cL_act 244 = .ok (.iconst 3, 1) := by decide +kernel
theorem dL_act_245 : decode cL_act 245 = .ok (.invokestatic 19, 3) := by decide +kernel
theorem dL_act_248 : decode cL_act 248 = .ok (.ifCond .ne 14, 3) := by decide +kernel
theorem dL_act_251 : decode cL_act 251 = .ok (.iload_n 2, 1) := by decide +kernel
theorem dL_act_252 : decode cL_act 252 = .ok (.iconst 2, 1) := by decide +kernel
theorem dL_act_253 : decode cL_act 253 = .ok (.ishr, 1) := by decide +kernel
theorem dL_act_254 : decode cL_act 254 = .ok (.bipush 61, 2) := by decide +kernel
theorem dL_act_256 : decode cL_act 256 = .ok (.invokestatic 19, 3) := by decide +kernel
theorem dL_act_259 : decode cL_act 259 = .ok (.goto 4, 3) := by decide +kernel
theorem dL_act_262 : decode cL_act 262 = .ok (.iconst 0, 1) := by decide +kernel
theorem dL_act_263 : decode cL_act 263 = .ok (.istore 12, 2) := by decide +kernel
theorem dL_act_265 : decode cL_act 265 = .ok (.aload_n 1, 1) := by decide +kernel
theorem dL_act_266 : decode cL_act 266 = .ok (.iload 9, 2) := by decide +kernel
theorem dL_act_268 : decode cL_act 268 = .ok (.iload 10, 2) := by decide +kernel
theorem dL_act_270 : decode cL_act 270 = .ok (.iload 11, 2) := by decide +kernel
theorem dL_act_272 : decode cL_act 272 = .ok (.iload 12, 2) := by decide +kernel
theorem dL_act_274 : decode cL_act 274 = .ok (.invokevirtual 34, 3) := by decide +kernel
theorem dL_act_277 : decode cL_act 277 = .ok (.aload_n 0, 1) := by decide +kernel
theorem dL_act_278 : decode cL_act 278 = .ok (.iload 9, 2) := by decide +kernel
theorem dL_act_280 : decode cL_act 280 = .ok (.iload 10, 2) := by decide +kernel
theorem dL_act_282 : decode cL_act 282 = .ok (.iload 11, 2) := by decide +kernel
theorem dL_act_284 : decode cL_act 284 = .ok (.iload 12, 2) := by decide +kernel
theorem dL_act_286 : decode cL_act 286 = .ok (.invokevirtual 38, 3) := by decide +kernel
theorem dL_act_289 : decode cL_act 289 = .ok (.iload 4, 2) := by decide +kernel
theorem dL_act_291 : decode cL_act 291 = .ok (.if_icmp .ne 7, 3) := by decide +kernel
theorem dL_act_294 : decode cL_act 294 = .ok (.iconst 1, 1) := by decide +kernel
theorem dL_act_295 : decode cL_act 295 = .ok (.goto 4, 3) := by decide +kernel
theorem dL_act_298 : decode cL_act 298 = .ok (.iconst 0, 1) := by decide +kernel
theorem dL_act_299 : decode cL_act 299 = .ok (.ireturn, 1) := by decide +kernel
theorem dL_act_300 : decode cL_act 300 = .ok (.aload_n 1, 1) := by decide +kernel
theorem dL_act_301 : decode cL_act 301 = .ok (.getfield 9, 3) := by decide +kernel
theorem dL_act_304 : decode cL_act 304 = .ok (.iload_n 2, 1) := by decide +kernel
theorem dL_act_305 : decode cL_act 305 = .ok (.iload_n 3, 1) := by decide +kernel
theorem dL_act_306 : decode cL_act 306 = .ok (.invokestatic 19, 3) := by decide +kernel
theorem dL_act_309 : decode cL_act 309 = .ok (.aaload, 1) := by decide +kernel
theorem dL_act_310 : decode cL_act 310 = .ok (.astore 13, 2) := by decide +kernel
theorem dL_act_312 : decode cL_act 312 = .ok (.bipush 100, 2) := by decide +kernel
theorem dL_act_314 : decode cL_act 314 = .ok (.aload 13, 2) := by decide +kernel
theorem dL_act_316 : decode cL_act 316 = .ok (.getfield 41, 3) := by decide +kernel
theorem dL_act_319 : decode cL_act 319 = .ok (.imul, 1) := by decide +kernel
theorem dL_act_320 : decode cL_act 320 = .ok (.aload 13, 2) := by decide +kernel
theorem dL_act_322 : decode cL_act 322 = .ok (.getfield 47, 3) := by decide +kernel
theorem dL_act_325 : decode cL_act 325 = .ok (.iadd, 1) := by decide +kernel
theorem dL_act_326 : decode cL_act 326 = .ok (.istore 14, 2) := by decide +kernel
theorem dL_act_328 : decode cL_act 328 = .ok (.aload 13, 2) := by decide +kernel
theorem dL_act_330 : decode cL_act 330 = .ok (.iload_n 2, 1) := by decide +kernel
theorem dL_act_331 : decode cL_act 331 = .ok (.iconst 2, 1) := by decide +kernel
theorem dL_act_332 : decode cL_act 332 = .ok (.ishr, 1) := by decide +kernel
theorem dL_act_333 : decode cL_act 333 = .ok (.bipush 21, 2) := by decide +kernel
theorem dL_act_335 : decode cL_act 335 = .ok (.invokestatic 19, 3) := by decide +kernel
theorem dL_act_338 : decode cL_act 338 = .ok (.putfield 41, 3) := by decide +kernel
theorem dL_act_341 : decode cL_act 341 = .ok (.aload 13, 2) := by decide +kernel
theorem dL_act_343 : decode cL_act 343 = .ok (.iload_n 2, 1) := by decide +kernel
theorem dL_act_344 : decode cL_act 344 = .ok (.iconst 4, 1) := by decide +kernel
theorem dL_act_345 : decode cL_act 345 = .ok (.ishr, 1) := by decide +kernel
theorem dL_act_346 : decode cL_act 346 = .ok (.bipush 21, 2) := by decide +kernel
theorem dL_act_348 : decode cL_act 348 = .ok (.invokestatic 19, 3) := by decide +kernel
theorem dL_act_351 : decode cL_act 351 = .ok (.putfield 47, 3) := by decide +kernel
theorem dL_act_354 : decode cL_act 354 = .ok (.aload_n 0, 1) := by decide +kernel
theorem dL_act_355 : decode cL_act 355 = .ok (.iload_n 2, 1) := by decide +kernel
theorem dL_act_356 : decode cL_act 356 = .ok (.iload_n 3, 1) := by decide +kernel
theorem dL_act_357 : decode cL_act 357 = .ok (.invokestatic 19, 3) := by decide +kernel
theorem dL_act_360 : decode cL_act 360 = .ok (.aload 13, 2) := by decide +kernel
theorem dL_act_362 : decode cL_act 362 = .ok (.getfield 41, 3) := by decide +kernel
theorem dL_act_365 : decode cL_act 365 = .ok (.aload 13, 2) := by decide +kernel
theorem dL_act_367 : decode cL_act 367 = .ok (.getfield 47, 3) := by decide +kernel
theorem dL_act_370 : decode cL_act 370 = .ok (.invokevirtual 50, 3) := by decide +kernel
theorem dL_act_373 : decode cL_act 373 = .ok (.iload 14, 2) := by decide +kernel
theorem dL_act_375 : decode cL_act 375 = .ok (.if_icmp .ne 7, 3) := by decide +kernel
theorem dL_act_378 : decode cL_act 378 = .ok (.iconst 1, 1) := by decide +kernel
theorem dL_act_379 : decode cL_act 379 = .ok (.goto 4, 3) := by decide +kernel
theorem dL_act_382 : decode cL_act 382 = .ok (.iconst 0, 1) := by decide +kernel
theorem dL_act_383 : decode cL_act 383 = .ok (.ireturn, 1) := by decide +kernel
theorem dL_act_384 : decode cL_act 384 = .ok (.iload_n 2, 1) := by decide +kernel
theorem dL_act_385 : decode cL_act 385 = .ok (.iconst 5, 1) := by decide +kernel
theorem dL_act_386 : decode cL_act 386 = .ok (.ishr, 1) := by decide +kernel
theorem dL_act_387 : decode cL_act 387 = .ok (.iconst 3, 1) := by decide +kernel
theorem dL_act_388 : decode cL_act 388 = .ok (.invokestatic 19, 3) := by decide +kernel
theorem dL_act_391 : decode cL_act 391 = .ok (.ifCond .le 5, 3) := by decide +kernel
theorem dL_act_394 : decode cL_act 394 = .ok (.iconst 1, 1) := by decide +kernel
theorem dL_act_395 : decode cL_act 395 = .ok (.ireturn, 1) := by decide +kernel
theorem dL_act_396 : decode cL_act 396 = .ok (.aload_n 1, 1) := by decide +kernel
theorem dL_act_397 : decode cL_act 397 = .ok (.getfield 9, 3) := by decide +kernel
theorem dL_act_400 : decode cL_act 400 = .ok (.iload_n 2, 1) := by decide +kernel
theorem dL_act_401 : decode cL_act 401 = .ok (.iload_n 3, 1) := by decide +kernel
theorem dL_act_402 : decode cL_act 402 = .ok (.invokestatic 19, 3) := by decide +kernel
theorem dL_act_405 : decode cL_act 405 = .ok (.aaload, 1) := by decide +kernel
theorem dL_act_406 : decode cL_act 406 = .ok (.astore 15, 2) := by decide +kernel
theorem dL_act_408 : decode cL_act 408 = .ok (.aload 15, 2) := by decide +kernel
theorem dL_act_410 : decode cL_act 410 = .ok (.getfield 53, 3) := by decide +kernel
theorem dL_act_413 : decode cL_act 413 = .ok (.istore 16, 2) := by decide +kernel
theorem dL_act_415 : decode cL_act 415 = .ok (.aload 15, 2) := by decide +kernel
theorem dL_act_417 : decode cL_act 417 = .ok (.iconst 0, 1) := by decide +kernel
theorem dL_act_418 : decode cL_act 418 = .ok (.putfield 53, 3) := by decide +kernel
theorem dL_act_421 : decode cL_act 421 = .ok (.aload 15, 2) := by decide +kernel
theorem dL_act_423 : decode cL_act 423 = .ok (.dup, 1) := by decide +kernel
theorem dL_act_424 : decode cL_act 424 = .ok (.getfield 56, 3) := by decide +kernel
theorem dL_act_427 : decode cL_act 427 = .ok (.iconst 2, 1) := by decide +kernel
theorem dL_act_428 : decode cL_act 428 = .ok (.idiv, 1) := by decide +kernel
theorem dL_act_429 : decode cL_act 429 = .ok (.putfield 56, 3) := by decide +kernel
theorem dL_act_432 : decode cL_act 432 = .ok (.aload_n 0, 1) := by decide +kernel
theorem dL_act_433 : decode cL_act 433 = .ok (.iload_n 2, 1) := by decide +kernel
