theorem dW_law_243 : decode code 243 = .ok (.if_icmp .eq 5, 3) := by decide +kernel
theorem dW_law_246 : decode code 246 = .ok (.iconst 0, 1) := by decide +kernel
theorem dW_law_247 : decode code 247 = .ok (.ireturn, 1) := by decide +kernel
theorem dW_law_248 : decode code 248 = .ok (.iload 5, 2) := by decide +kernel
theorem dW_law_250 : decode code 250 = .ok (.ifCond .ne 15, 3) := by decide +kernel
theorem dW_law_253 : decode code 253 = .ok (.aload_n 3, 1) := by decide +kernel
theorem dW_law_254 : decode code 254 = .ok (.iconst 0, 1) := by decide +kernel
theorem dW_law_255 : decode code 255 = .ok (.laload, 1) := by decide +kernel
theorem dW_law_256 : decode code 256 = .ok (.iload 6, 2) := by decide +kernel
theorem dW_law_258 : decode code 258 = .ok (.i2l, 1) := by decide +kernel
theorem dW_law_259 : decode code 259 = .ok (.lcmp, 1) := by decide +kernel
theorem dW_law_260 : decode code 260 = .ok (.ifCond .eq 5, 3) := by decide +kernel
theorem dW_law_263 : decode code 263 = .ok (.iconst 0, 1) := by decide +kernel
theorem dW_law_264 : decode code 264 = .ok (.ireturn, 1) := by decide +kernel
theorem dW_law_265 : decode code 265 = .ok (.goto 693, 3) := by decide +kernel
theorem dW_law_268 : decode code 268 = .ok (.aload_n 1, 1) := by decide +kernel
theorem dW_law_269 : decode code 269 = .ok (.aload_n 0, 1) := by decide +kernel
theorem dW_law_270 : decode code 270 = .ok (.iload 4, 2) := by decide +kernel
theorem dW_law_272 : decode code 272 = .ok (.iconst 1, 1) := by decide +kernel
theorem dW_law_273 : decode code 273 = .ok (.iadd, 1) := by decide +kernel
theorem dW_law_274 : decode code 274 = .ok (.iaload, 1) := by decide +kernel
theorem dW_law_275 : decode code 275 = .ok (.aload_n 0, 1) := by decide +kernel
theorem dW_law_276 : decode code 276 = .ok (.iload 4, 2) := by decide +kernel
theorem dW_law_278 : decode code 278 = .ok (.iconst 2, 1) := by decide +kernel
theorem dW_law_279 : decode code 279 = .ok (.iadd, 1) := by decide +kernel
theorem dW_law_280 : decode code 280 = .ok (.iaload, 1) := by decide +kernel
theorem dW_law_281 : decode code 281 = .ok (.ifCond .eq 7, 3) := by decide +kernel
theorem dW_law_284 : decode code 284 = .ok (.iconst 1, 1) := by decide +kernel
theorem dW_law_285 : decode code 285 = .ok (.goto 4, 3) := by decide +kernel
theorem dW_law_288 : decode code 288 = .ok (.iconst 0, 1) := by decide +kernel
theorem dW_law_289 : decode code 289 = .ok (.aload_n 3, 1) := by decide +kernel
theorem dW_law_290 : decode code 290 = .ok (.invokestatic 75, 3) := by decide +kernel
theorem dW_law_293 : decode code 293 = .ok (.istore 5, 2) := by decide +kernel
theorem dW_law_295 : decode code 295 = .ok (.aload_n 2, 1) := by decide +kernel
theorem dW_law_296 : decode code 296 = .ok (.aload_n 0, 1) := by decide +kernel
theorem dW_law_297 : decode code 297 = .ok (.iload 4, 2) := by decide +kernel
theorem dW_law_299 : decode code 299 = .ok (.iconst 1, 1) := by decide +kernel
theorem dW_law_300 : decode code 300 = .ok (.iadd, 1) := by decide +kernel
theorem dW_law_301 : decode code 301 = .ok (.iaload, 1) := by decide +kernel
theorem dW_law_302 : decode code 302 = .ok (.aload_n 0, 1) := by decide +kernel
theorem dW_law_303 : decode code 303 = .ok (.iload 4, 2) := by decide +kernel
theorem dW_law_305 : decode code 305 = .ok (.iconst 2, 1) := by decide +kernel
theorem dW_law_306 : decode code 306 = .ok (.iadd, 1) := by decide +kernel
theorem dW_law_307 : decode code 307 = .ok (.iaload, 1) := by decide +kernel
theorem dW_law_308 : decode code 308 = .ok (.ifCond .eq 7, 3) := by decide +kernel
theorem dW_law_311 : decode code 311 = .ok (.iconst 1, 1) := by decide +kernel
theorem dW_law_312 : decode code 312 = .ok (.goto 4, 3) := by decide +kernel
theorem dW_law_315 : decode code 315 = .ok (.iconst 0, 1) := by decide +kernel
theorem dW_law_316 : decode code 316 = .ok (.invokevirtual 78, 3) := by decide +kernel
theorem dW_law_319 : decode code 319 = .ok (.istore 6, 2) := by decide +kernel
theorem dW_law_321 : decode code 321 = .ok (.aload_n 2, 1) := by decide +kernel
theorem dW_law_322 : decode code 322 = .ok (.invokevirtual 69, 3) := by decide +kernel
theorem dW_law_325 : decode code 325 = .ok (.iload 5, 2) := by decide +kernel
theorem dW_law_327 : decode code 327 = .ok (.if_icmp .eq 5, 3) := by decide +kernel
theorem dW_law_330 : decode code 330 = .ok (.iconst 0, 1) := by decide +kernel
theorem dW_law_331 : decode code 331 = .ok (.ireturn, 1) := by decide +kernel
theorem dW_law_332 : decode code 332 = .ok (.iload 5, 2) := by decide +kernel
theorem dW_law_334 : decode code 334 = .ok (.ifCond .ne 15, 3) := by decide +kernel
theorem dW_law_337 : decode code 337 = .ok (.aload_n 3, 1) := by decide +kernel
theorem dW_law_338 : decode code 338 = .ok (.iconst 0, 1) := by decide +kernel
theorem dW_law_339 : decode code 339 = .ok (.laload, 1) := by decide +kernel
theorem dW_law_340 : decode code 340 = .ok (.iload 6, 2) := by decide +kernel
theorem dW_law_342 : decode code 342 = .ok (.i2l, 1) := by decide +kernel
theorem dW_law_343 : decode code 343 = .ok (.lcmp, 1) := by decide +kernel
theorem dW_law_344 : decode code 344 = .ok (.ifCond .eq 5, 3) := by decide +kernel
theorem dW_law_347 : decode code 347 = .ok (.iconst 0, 1) := by decide +kernel
theorem dW_law_348 : decode code 348 = .ok (.ireturn, 1) := by decide +kernel
theorem dW_law_349 : decode code 349 = .ok (.goto 609, 3) := by decide +kernel
theorem dW_law_352 : decode code 352 = .ok (.aload_n 1, 1) := by decide +kernel
theorem dW_law_353 : decode code 353 = .ok (.aload_n 0, 1) := by decide +kernel
theorem dW_law_354 : decode code 354 = .ok (.iload 4, 2) := by decide +kernel
theorem dW_law_356 : decode code 356 = .ok (.iconst 1, 1) := by decide +kernel
theorem dW_law_357 : decode code 357 = .ok (.iadd, 1) := by decide +kernel
theorem dW_law_358 : decode code 358 = .ok (.iaload, 1) := by decide +kernel
theorem dW_law_359 : decode code 359 = .ok (.invokestatic 79, 3) := by decide +kernel
theorem dW_law_362 : decode code 362 = .ok (.istore 5, 2) := by decide +kernel
theorem dW_law_364 : decode code 364 = .ok (.aload_n 2, 1) := by decide +kernel
theorem dW_law_365 : decode code 365 = .ok (.aload_n 0, 1) := by decide +kernel
theorem dW_law_366 : decode code 366 = .ok (.iload 4, 2) := by decide +kernel
theorem dW_law_368 : decode code 368 = .ok (.iconst 1, 1) := by decide +kernel
theorem dW_law_369 : decode code 369 = .ok (.iadd, 1) := by decide +kernel
theorem dW_law_370 : decode code 370 = .ok (.iaload, 1) := by decide +kernel
theorem dW_law_371 : decode code 371 = .ok (.invokevirtual 82, 3) := by decide +kernel
theorem dW_law_374 : decode code 374 = .ok (.aload_n 2, 1) := by decide +kernel
theorem dW_law_375 : decode code 375 = .ok (.invokevirtual 69, 3) := by decide +kernel
theorem dW_law_378 : decode code 378 = .ok (.iload 5, 2) := by decide +kernel
theorem dW_law_380 : decode code 380 = .ok (.if_icmp .eq 5, 3) := by decide +kernel
theorem dW_law_383 : decode code 383 = .ok (.iconst 0, 1) := by decide +kernel
theorem dW_law_384 : decode code 384 = .ok (.ireturn, 1) := by decide +kernel
theorem dW_law_385 : decode code 385 = .ok (.goto 573, 3) := by decide +kernel
theorem dW_law_388 : decode code 388 = .ok (.aload_n 1, 1) := by decide +kernel
theorem dW_law_389 : decode code 389 = .ok (.aload_n 3, 1) := by decide +kernel
theorem dW_law_390 : decode code 390 = .ok (.invokestatic 83, 3) := by decide +kernel
theorem dW_law_393 : decode code 393 = .ok (.istore 5, 2) := by decide +kernel
theorem dW_law_395 : decode code 395 = .ok (.aload_n 2, 1) := by decide +kernel
theorem dW_law_396 : decode code 396 = .ok (.invokevirtual 86, 3) := by decide +kernel
theorem dW_law_399 : decode code 399 = .ok (.istore 6, 2) := by decide +kernel
theorem dW_law_401 : decode code 401 = .ok (.aload_n 2, 1) := by decide +kernel
theorem dW_law_402 : decode code 402 = .ok (.invokevirtual 69, 3) := by decide +kernel
theorem dW_law_405 : decode code 405 = .ok (.iload 5, 2) := by decide +kernel
theorem dW_law_407 : decode code 407 = .ok (.if_icmp .eq 5, 3) := by decide +kernel
theorem dW_law_410 : decode code 410 = .ok (.iconst 0, 1) := by decide +kernel
theorem dW_law_411 : decode code 411 = .ok (.ireturn, 1) := by decide +kernel
theorem dW_law_412 : decode code 412 = .ok (.iload 5, 2) := by decide +kernel
theorem dW_law_414 : decode code 414 = .ok (.ifCond .ne 15, 3) := by decide +kernel
theorem dW_law_417 : decode code 417 = .ok (.aload_n 3, 1) := by decide +kernel
theorem dW_law_418 : decode code 418 = .ok (.iconst 0, 1) := by decide +kernel
theorem dW_law_419 : decode code 419 = .ok (.laload, 1) := by decide +kernel
theorem dW_law_420 : decode code 420 = .ok (.iload 6, 2) := by decide +kernel
theorem dW_law_422 : decode code 422 = .ok (.i2l, 1) := by decide +kernel
theorem dW_law_423 : decode code 423 = .ok (.lcmp, 1) := by decide +kernel
theorem dW_law_424 : decode code 424 = .ok (.ifCond .eq 5, 3) := by decide +kernel
theorem dW_law_427 : decode code 427 = .ok (.iconst 0, 1) := by decide +kernel
theorem dW_law_428 : decode code 428 = .ok (.ireturn, 1) := by decide +kernel
theorem dW_law_429 : decode code 429 = .ok (.goto 529, 3) := by decide +kernel
theorem dW_law_432 : decode code 432 = .ok (.aload_n 1, 1) := by decide +kernel
theorem dW_law_433 : decode code 433 = .ok (.aload_n 0, 1) := by decide +kernel
theorem dW_law_434 : decode code 434 = .ok (.iload 4, 2) := by decide +kernel
theorem dW_law_436 : decode code 436 = .ok (.iconst 1, 1) := by decide +kernel
theorem dW_law_437 : decode code 437 = .ok (.iadd, 1) := by decide +kernel
