theorem d_law_334 : decode code 334 = .ok (.lshl, 1) := by decide +kernel
theorem d_law_335 : decode code 335 = .ok (.aload_n 0, 1) := by decide +kernel
theorem d_law_336 : decode code 336 = .ok (.iload 4, 2) := by decide +kernel
theorem d_law_338 : decode code 338 = .ok (.iconst 2, 1) := by decide +kernel
theorem d_law_339 : decode code 339 = .ok (.iadd, 1) := by decide +kernel
theorem d_law_340 : decode code 340 = .ok (.iaload, 1) := by decide +kernel
theorem d_law_341 : decode code 341 = .ok (.i2l, 1) := by decide +kernel
theorem d_law_342 : decode code 342 = .ok (.ldc2_w 40, 3) := by decide +kernel
theorem d_law_345 : decode code 345 = .ok (.land, 1) := by decide +kernel
theorem d_law_346 : decode code 346 = .ok (.lor, 1) := by decide +kernel
theorem d_law_347 : decode code 347 = .ok (.aload_n 0, 1) := by decide +kernel
theorem d_law_348 : decode code 348 = .ok (.iload 4, 2) := by decide +kernel
theorem d_law_350 : decode code 350 = .ok (.iconst 3, 1) := by decide +kernel
theorem d_law_351 : decode code 351 = .ok (.iadd, 1) := by decide +kernel
theorem d_law_352 : decode code 352 = .ok (.iaload, 1) := by decide +kernel
theorem d_law_353 : decode code 353 = .ok (.aload_n 3, 1) := by decide +kernel
theorem d_law_354 : decode code 354 = .ok (.invokestatic 73, 3) := by decide +kernel
theorem d_law_357 : decode code 357 = .ok (.istore 5, 2) := by decide +kernel
theorem d_law_359 : decode code 359 = .ok (.aload_n 2, 1) := by decide +kernel
theorem d_law_360 : decode code 360 = .ok (.aload_n 0, 1) := by decide +kernel
theorem d_law_361 : decode code 361 = .ok (.iload 4, 2) := by decide +kernel
theorem d_law_363 : decode code 363 = .ok (.iconst 1, 1) := by decide +kernel
theorem d_law_364 : decode code 364 = .ok (.iadd, 1) := by decide +kernel
theorem d_law_365 : decode code 365 = .ok (.iaload, 1) := by decide +kernel
theorem d_law_366 : decode code 366 = .ok (.i2l, 1) := by decide +kernel
theorem d_law_367 : decode code 367 = .ok (.bipush 32, 2) := by decide +kernel
theorem d_law_369 : decode code 369 = .ok (.lshl, 1) := by decide +kernel
theorem d_law_370 : decode code 370 = .ok (.aload_n 0, 1) := by decide +kernel
theorem d_law_371 : decode code 371 = .ok (.iload 4, 2) := by decide +kernel
theorem d_law_373 : decode code 373 = .ok (.iconst 2, 1) := by decide +kernel
theorem d_law_374 : decode code 374 = .ok (.iadd, 1) := by decide +kernel
theorem d_law_375 : decode code 375 = .ok (.iaload, 1) := by decide +kernel
theorem d_law_376 : decode code 376 = .ok (.i2l, 1) := by decide +kernel
theorem d_law_377 : decode code 377 = .ok (.ldc2_w 40, 3) := by decide +kernel
theorem d_law_380 : decode code 380 = .ok (.land, 1) := by decide +kernel
theorem d_law_381 : decode code 381 = .ok (.lor, 1) := by decide +kernel
theorem d_law_382 : decode code 382 = .ok (.aload_n 0, 1) := by decide +kernel
theorem d_law_383 : decode code 383 = .ok (.iload 4, 2) := by decide +kernel
theorem d_law_385 : decode code 385 = .ok (.iconst 3, 1) := by decide +kernel
theorem d_law_386 : decode code 386 = .ok (.iadd, 1) := by decide +kernel
theorem d_law_387 : decode code 387 = .ok (.iaload, 1) := by decide +kernel
theorem d_law_388 : decode code 388 = .ok (.invokevirtual 76, 3) := by decide +kernel
theorem d_law_391 : decode code 391 = .ok (.istore 6, 2) := by decide +kernel
theorem d_law_393 : decode code 393 = .ok (.aload_n 2, 1) := by decide +kernel
theorem d_law_394 : decode code 394 = .ok (.invokevirtual 61, 3) := by decide +kernel
theorem d_law_397 : decode code 397 = .ok (.iload 5, 2) := by decide +kernel
theorem d_law_399 : decode code 399 = .ok (.if_icmp .eq 5, 3) := by decide +kernel
theorem d_law_402 : decode code 402 = .ok (.iconst 0, 1) := by decide +kernel
theorem d_law_403 : decode code 403 = .ok (.ireturn, 1) := by decide +kernel
theorem d_law_404 : decode code 404 = .ok (.iload 5, 2) := by decide +kernel
theorem d_law_406 : decode code 406 = .ok (.ifCond .ne 15, 3) := by decide +kernel
theorem d_law_409 : decode code 409 = .ok (.aload_n 3, 1) := by decide +kernel
theorem d_law_410 : decode code 410 = .ok (.iconst 0, 1) := by decide +kernel
theorem d_law_411 : decode code 411 = .ok (.laload, 1) := by decide +kernel
theorem d_law_412 : decode code 412 = .ok (.iload 6, 2) := by decide +kernel
theorem d_law_414 : decode code 414 = .ok (.i2l, 1) := by decide +kernel
theorem d_law_415 : decode code 415 = .ok (.lcmp, 1) := by decide +kernel
theorem d_law_416 : decode code 416 = .ok (.ifCond .eq 5, 3) := by decide +kernel
theorem d_law_419 : decode code 419 = .ok (.iconst 0, 1) := by decide +kernel
theorem d_law_420 : decode code 420 = .ok (.ireturn, 1) := by decide +kernel
