/-! the law, decoded: 347 and on -/
theorem dl_347 : decode code 347 = .ok (.aload_n 0, 1) := by decide +kernel
theorem dl_348 : decode code 348 = .ok (.iload 4, 2) := by decide +kernel
theorem dl_350 : decode code 350 = .ok (.iconst 1, 1) := by decide +kernel
theorem dl_351 : decode code 351 = .ok (.iadd, 1) := by decide +kernel
theorem dl_352 : decode code 352 = .ok (.iaload, 1) := by decide +kernel
theorem dl_353 : decode code 353 = .ok (.invokevirtual 31, 3) := by decide +kernel
theorem dl_356 : decode code 356 = .ok (.aload_n 2, 1) := by decide +kernel
theorem dl_357 : decode code 357 = .ok (.aload_n 0, 1) := by decide +kernel
theorem dl_358 : decode code 358 = .ok (.iload 4, 2) := by decide +kernel
theorem dl_360 : decode code 360 = .ok (.iconst 1, 1) := by decide +kernel
theorem dl_361 : decode code 361 = .ok (.iadd, 1) := by decide +kernel
theorem dl_362 : decode code 362 = .ok (.iaload, 1) := by decide +kernel
theorem dl_363 : decode code 363 = .ok (.invokevirtual 34, 3) := by decide +kernel
theorem dl_366 : decode code 366 = .ok (.if_icmp .eq 1439, 3) := by decide +kernel
theorem dl_369 : decode code 369 = .ok (.iconst 0, 1) := by decide +kernel
theorem dl_370 : decode code 370 = .ok (.ireturn, 1) := by decide +kernel
theorem dl_371 : decode code 371 = .ok (.aload_n 1, 1) := by decide +kernel
theorem dl_372 : decode code 372 = .ok (.aload_n 0, 1) := by decide +kernel
theorem dl_373 : decode code 373 = .ok (.iload 4, 2) := by decide +kernel
theorem dl_375 : decode code 375 = .ok (.iconst 1, 1) := by decide +kernel
theorem dl_376 : decode code 376 = .ok (.iadd, 1) := by decide +kernel
theorem dl_377 : decode code 377 = .ok (.iaload, 1) := by decide +kernel
theorem dl_378 : decode code 378 = .ok (.aload_n 0, 1) := by decide +kernel
theorem dl_379 : decode code 379 = .ok (.iload 4, 2) := by decide +kernel
theorem dl_381 : decode code 381 = .ok (.iconst 2, 1) := by decide +kernel
theorem dl_382 : decode code 382 = .ok (.iadd, 1) := by decide +kernel
theorem dl_383 : decode code 383 = .ok (.iaload, 1) := by decide +kernel
theorem dl_384 : decode code 384 = .ok (.invokevirtual 35, 3) := by decide +kernel
theorem dl_387 : decode code 387 = .ok (.aload_n 2, 1) := by decide +kernel
theorem dl_388 : decode code 388 = .ok (.aload_n 0, 1) := by decide +kernel
theorem dl_389 : decode code 389 = .ok (.iload 4, 2) := by decide +kernel
theorem dl_391 : decode code 391 = .ok (.iconst 1, 1) := by decide +kernel
theorem dl_392 : decode code 392 = .ok (.iadd, 1) := by decide +kernel
theorem dl_393 : decode code 393 = .ok (.iaload, 1) := by decide +kernel
theorem dl_394 : decode code 394 = .ok (.aload_n 0, 1) := by decide +kernel
theorem dl_395 : decode code 395 = .ok (.iload 4, 2) := by decide +kernel
theorem dl_397 : decode code 397 = .ok (.iconst 2, 1) := by decide +kernel
theorem dl_398 : decode code 398 = .ok (.iadd, 1) := by decide +kernel
theorem dl_399 : decode code 399 = .ok (.iaload, 1) := by decide +kernel
theorem dl_400 : decode code 400 = .ok (.invokevirtual 38, 3) := by decide +kernel
theorem dl_403 : decode code 403 = .ok (.if_icmp .eq 1402, 3) := by decide +kernel
theorem dl_406 : decode code 406 = .ok (.iconst 0, 1) := by decide +kernel
theorem dl_407 : decode code 407 = .ok (.ireturn, 1) := by decide +kernel
theorem dl_408 : decode code 408 = .ok (.aload_n 1, 1) := by decide +kernel
theorem dl_409 : decode code 409 = .ok (.aload_n 0, 1) := by decide +kernel
theorem dl_410 : decode code 410 = .ok (.iload 4, 2) := by decide +kernel
theorem dl_412 : decode code 412 = .ok (.iconst 1, 1) := by decide +kernel
theorem dl_413 : decode code 413 = .ok (.iadd, 1) := by decide +kernel
theorem dl_414 : decode code 414 = .ok (.iaload, 1) := by decide +kernel
theorem dl_415 : decode code 415 = .ok (.aload_n 0, 1) := by decide +kernel
theorem dl_416 : decode code 416 = .ok (.iload 4, 2) := by decide +kernel
theorem dl_418 : decode code 418 = .ok (.iconst 2, 1) := by decide +kernel
theorem dl_419 : decode code 419 = .ok (.iadd, 1) := by decide +kernel
theorem dl_420 : decode code 420 = .ok (.iaload, 1) := by decide +kernel
theorem dl_421 : decode code 421 = .ok (.aload_n 3, 1) := by decide +kernel
theorem dl_422 : decode code 422 = .ok (.invokestatic 39, 3) := by decide +kernel
theorem dl_425 : decode code 425 = .ok (.istore 5, 2) := by decide +kernel
theorem dl_427 : decode code 427 = .ok (.aload_n 2, 1) := by decide +kernel
theorem dl_428 : decode code 428 = .ok (.aload_n 0, 1) := by decide +kernel
theorem dl_429 : decode code 429 = .ok (.iload 4, 2) := by decide +kernel
theorem dl_431 : decode code 431 = .ok (.iconst 1, 1) := by decide +kernel
theorem dl_432 : decode code 432 = .ok (.iadd, 1) := by decide +kernel
theorem dl_433 : decode code 433 = .ok (.iaload, 1) := by decide +kernel
theorem dl_434 : decode code 434 = .ok (.aload_n 0, 1) := by decide +kernel
theorem dl_435 : decode code 435 = .ok (.iload 4, 2) := by decide +kernel
theorem dl_437 : decode code 437 = .ok (.iconst 2, 1) := by decide +kernel
theorem dl_438 : decode code 438 = .ok (.iadd, 1) := by decide +kernel
theorem dl_439 : decode code 439 = .ok (.iaload, 1) := by decide +kernel
theorem dl_440 : decode code 440 = .ok (.invokevirtual 44, 3) := by decide +kernel
theorem dl_443 : decode code 443 = .ok (.istore 6, 2) := by decide +kernel
theorem dl_445 : decode code 445 = .ok (.aload_n 2, 1) := by decide +kernel
theorem dl_446 : decode code 446 = .ok (.invokevirtual 45, 3) := by decide +kernel
theorem dl_449 : decode code 449 = .ok (.iload 5, 2) := by decide +kernel
theorem dl_451 : decode code 451 = .ok (.if_icmp .eq 5, 3) := by decide +kernel
theorem dl_454 : decode code 454 = .ok (.iconst 0, 1) := by decide +kernel
theorem dl_455 : decode code 455 = .ok (.ireturn, 1) := by decide +kernel
theorem dl_456 : decode code 456 = .ok (.iload 5, 2) := by decide +kernel
theorem dl_458 : decode code 458 = .ok (.ifCond .ne 15, 3) := by decide +kernel
theorem dl_461 : decode code 461 = .ok (.aload_n 3, 1) := by decide +kernel
theorem dl_462 : decode code 462 = .ok (.iconst 0, 1) := by decide +kernel
theorem dl_463 : decode code 463 = .ok (.laload, 1) := by decide +kernel
theorem dl_464 : decode code 464 = .ok (.iload 6, 2) := by decide +kernel
theorem dl_466 : decode code 466 = .ok (.i2l, 1) := by decide +kernel
theorem dl_467 : decode code 467 = .ok (.lcmp, 1) := by decide +kernel
theorem dl_468 : decode code 468 = .ok (.ifCond .eq 5, 3) := by decide +kernel
theorem dl_471 : decode code 471 = .ok (.iconst 0, 1) := by decide +kernel
theorem dl_472 : decode code 472 = .ok (.ireturn, 1) := by decide +kernel
theorem dl_473 : decode code 473 = .ok (.goto 1332, 3) := by decide +kernel
theorem dl_476 : decode code 476 = .ok (.aload_n 1, 1) := by decide +kernel
theorem dl_477 : decode code 477 = .ok (.aload_n 0, 1) := by decide +kernel
theorem dl_478 : decode code 478 = .ok (.iload 4, 2) := by decide +kernel
theorem dl_480 : decode code 480 = .ok (.iconst 1, 1) := by decide +kernel
theorem dl_481 : decode code 481 = .ok (.iadd, 1) := by decide +kernel
theorem dl_482 : decode code 482 = .ok (.iaload, 1) := by decide +kernel
theorem dl_483 : decode code 483 = .ok (.aload_n 0, 1) := by decide +kernel
theorem dl_484 : decode code 484 = .ok (.iload 4, 2) := by decide +kernel
theorem dl_486 : decode code 486 = .ok (.iconst 2, 1) := by decide +kernel
theorem dl_487 : decode code 487 = .ok (.iadd, 1) := by decide +kernel
theorem dl_488 : decode code 488 = .ok (.iaload, 1) := by decide +kernel
theorem dl_489 : decode code 489 = .ok (.invokevirtual 49, 3) := by decide +kernel
