theorem d_Law_law_298 : decode code 298 = .ok (.iconst 1, 1) := by decide +kernel
theorem d_Law_law_299 : decode code 299 = .ok (.iadd, 1) := by decide +kernel
theorem d_Law_law_300 : decode code 300 = .ok (.iaload, 1) := by decide +kernel
theorem d_Law_law_301 : decode code 301 = .ok (.aload_n 0, 1) := by decide +kernel
theorem d_Law_law_302 : decode code 302 = .ok (.iload 4, 2) := by decide +kernel
theorem d_Law_law_304 : decode code 304 = .ok (.iconst 2, 1) := by decide +kernel
theorem d_Law_law_305 : decode code 305 = .ok (.iadd, 1) := by decide +kernel
theorem d_Law_law_306 : decode code 306 = .ok (.iaload, 1) := by decide +kernel
theorem d_Law_law_307 : decode code 307 = .ok (.aload_n 3, 1) := by decide +kernel
theorem d_Law_law_308 : decode code 308 = .ok (.invokestatic 76, 3) := by decide +kernel
theorem d_Law_law_311 : decode code 311 = .ok (.istore 5, 2) := by decide +kernel
theorem d_Law_law_313 : decode code 313 = .ok (.aload_n 2, 1) := by decide +kernel
theorem d_Law_law_314 : decode code 314 = .ok (.aload_n 0, 1) := by decide +kernel
theorem d_Law_law_315 : decode code 315 = .ok (.iload 4, 2) := by decide +kernel
theorem d_Law_law_317 : decode code 317 = .ok (.iconst 1, 1) := by decide +kernel
theorem d_Law_law_318 : decode code 318 = .ok (.iadd, 1) := by decide +kernel
theorem d_Law_law_319 : decode code 319 = .ok (.iaload, 1) := by decide +kernel
theorem d_Law_law_320 : decode code 320 = .ok (.aload_n 0, 1) := by decide +kernel
theorem d_Law_law_321 : decode code 321 = .ok (.iload 4, 2) := by decide +kernel
theorem d_Law_law_323 : decode code 323 = .ok (.iconst 2, 1) := by decide +kernel
theorem d_Law_law_324 : decode code 324 = .ok (.iadd, 1) := by decide +kernel
theorem d_Law_law_325 : decode code 325 = .ok (.iaload, 1) := by decide +kernel
theorem d_Law_law_326 : decode code 326 = .ok (.invokevirtual 78, 3) := by decide +kernel
theorem d_Law_law_329 : decode code 329 = .ok (.lstore 6, 2) := by decide +kernel
theorem d_Law_law_331 : decode code 331 = .ok (.aload_n 2, 1) := by decide +kernel
theorem d_Law_law_332 : decode code 332 = .ok (.invokevirtual 68, 3) := by decide +kernel
theorem d_Law_law_335 : decode code 335 = .ok (.iload 5, 2) := by decide +kernel
theorem d_Law_law_337 : decode code 337 = .ok (.if_icmp .eq 5, 3) := by decide +kernel
theorem d_Law_law_340 : decode code 340 = .ok (.iconst 0, 1) := by decide +kernel
theorem d_Law_law_341 : decode code 341 = .ok (.ireturn, 1) := by decide +kernel
theorem d_Law_law_342 : decode code 342 = .ok (.iload 5, 2) := by decide +kernel
theorem d_Law_law_344 : decode code 344 = .ok (.ifCond .ne 14, 3) := by decide +kernel
theorem d_Law_law_347 : decode code 347 = .ok (.aload_n 3, 1) := by decide +kernel
theorem d_Law_law_348 : decode code 348 = .ok (.iconst 0, 1) := by decide +kernel
theorem d_Law_law_349 : decode code 349 = .ok (.laload, 1) := by decide +kernel
theorem d_Law_law_350 : decode code 350 = .ok (.lload 6, 2) := by decide +kernel
theorem d_Law_law_352 : decode code 352 = .ok (.lcmp, 1) := by decide +kernel
theorem d_Law_law_353 : decode code 353 = .ok (.ifCond .eq 5, 3) := by decide +kernel
theorem d_Law_law_356 : decode code 356 = .ok (.iconst 0, 1) := by decide +kernel
theorem d_Law_law_357 : decode code 357 = .ok (.ireturn, 1) := by decide +kernel
theorem d_Law_law_358 : decode code 358 = .ok (.goto 639, 3) := by decide +kernel
theorem d_Law_law_361 : decode code 361 = .ok (.aload_n 1, 1) := by decide +kernel
theorem d_Law_law_362 : decode code 362 = .ok (.aload_n 0, 1) := by decide +kernel
theorem d_Law_law_363 : decode code 363 = .ok (.iload 4, 2) := by decide +kernel
theorem d_Law_law_365 : decode code 365 = .ok (.iconst 1, 1) := by decide +kernel
theorem d_Law_law_366 : decode code 366 = .ok (.iadd, 1) := by decide +kernel
theorem d_Law_law_367 : decode code 367 = .ok (.iaload, 1) := by decide +kernel
theorem d_Law_law_368 : decode code 368 = .ok (.aload_n 0, 1) := by decide +kernel
theorem d_Law_law_369 : decode code 369 = .ok (.iload 4, 2) := by decide +kernel
theorem d_Law_law_371 : decode code 371 = .ok (.iconst 2, 1) := by decide +kernel
theorem d_Law_law_372 : decode code 372 = .ok (.iadd, 1) := by decide +kernel
theorem d_Law_law_373 : decode code 373 = .ok (.iaload, 1) := by decide +kernel
theorem d_Law_law_374 : decode code 374 = .ok (.aload_n 0, 1) := by decide +kernel
theorem d_Law_law_375 : decode code 375 = .ok (.iload 4, 2) := by decide +kernel
theorem d_Law_law_377 : decode code 377 = .ok (.iconst 3, 1) := by decide +kernel
theorem d_Law_law_378 : decode code 378 = .ok (.iadd, 1) := by decide +kernel
theorem d_Law_law_379 : decode code 379 = .ok (.iaload, 1) := by decide +kernel
theorem d_Law_law_380 : decode code 380 = .ok (.i2l, 1) := by decide +kernel
theorem d_Law_law_381 : decode code 381 = .ok (.bipush 32, 2) := by decide +kernel
theorem d_Law_law_383 : decode code 383 = .ok (.lshl, 1) := by decide +kernel
theorem d_Law_law_384 : decode code 384 = .ok (.aload_n 0, 1) := by decide +kernel
theorem d_Law_law_385 : decode code 385 = .ok (.iload 4, 2) := by decide +kernel
theorem d_Law_law_387 : decode code 387 = .ok (.iconst 4, 1) := by decide +kernel
theorem d_Law_law_388 : decode code 388 = .ok (.iadd, 1) := by decide +kernel
theorem d_Law_law_389 : decode code 389 = .ok (.iaload, 1) := by decide +kernel
theorem d_Law_law_390 : decode code 390 = .ok (.i2l, 1) := by decide +kernel
theorem d_Law_law_391 : decode code 391 = .ok (.ldc2_w 60, 3) := by decide +kernel
theorem d_Law_law_394 : decode code 394 = .ok (.land, 1) := by decide +kernel
theorem d_Law_law_395 : decode code 395 = .ok (.lor, 1) := by decide +kernel
theorem d_Law_law_396 : decode code 396 = .ok (.aload_n 0, 1) := by decide +kernel
theorem d_Law_law_397 : decode code 397 = .ok (.iload 4, 2) := by decide +kernel
theorem d_Law_law_399 : decode code 399 = .ok (.iconst 5, 1) := by decide +kernel
theorem d_Law_law_400 : decode code 400 = .ok (.iadd, 1) := by decide +kernel
theorem d_Law_law_401 : decode code 401 = .ok (.iaload, 1) := by decide +kernel
theorem d_Law_law_402 : decode code 402 = .ok (.i2l, 1) := by decide +kernel
theorem d_Law_law_403 : decode code 403 = .ok (.bipush 32, 2) := by decide +kernel
theorem d_Law_law_405 : decode code 405 = .ok (.lshl, 1) := by decide +kernel
theorem d_Law_law_406 : decode code 406 = .ok (.aload_n 0, 1) := by decide +kernel
theorem d_Law_law_407 : decode code 407 = .ok (.iload 4, 2) := by decide +kernel
theorem d_Law_law_409 : decode code 409 = .ok (.bipush 6, 2) := by decide +kernel
theorem d_Law_law_411 : decode code 411 = .ok (.iadd, 1) := by decide +kernel
theorem d_Law_law_412 : decode code 412 = .ok (.iaload, 1) := by decide +kernel
theorem d_Law_law_413 : decode code 413 = .ok (.i2l, 1) := by decide +kernel
theorem d_Law_law_414 : decode code 414 = .ok (.ldc2_w 60, 3) := by decide +kernel
theorem d_Law_law_417 : decode code 417 = .ok (.land, 1) := by decide +kernel
theorem d_Law_law_418 : decode code 418 = .ok (.lor, 1) := by decide +kernel
theorem d_Law_law_419 : decode code 419 = .ok (.aload_n 3, 1) := by decide +kernel
theorem d_Law_law_420 : decode code 420 = .ok (.invokestatic 79, 3) := by decide +kernel
theorem d_Law_law_423 : decode code 423 = .ok (.istore 5, 2) := by decide +kernel
theorem d_Law_law_425 : decode code 425 = .ok (.aload_n 2, 1) := by decide +kernel
theorem d_Law_law_426 : decode code 426 = .ok (.aload_n 0, 1) := by decide +kernel
theorem d_Law_law_427 : decode code 427 = .ok (.iload 4, 2) := by decide +kernel
theorem d_Law_law_429 : decode code 429 = .ok (.iconst 1, 1) := by decide +kernel
theorem d_Law_law_430 : decode code 430 = .ok (.iadd, 1) := by decide +kernel
theorem d_Law_law_431 : decode code 431 = .ok (.iaload, 1) := by decide +kernel
theorem d_Law_law_432 : decode code 432 = .ok (.aload_n 0, 1) := by decide +kernel
theorem d_Law_law_433 : decode code 433 = .ok (.iload 4, 2) := by decide +kernel
theorem d_Law_law_435 : decode code 435 = .ok (.iconst 2, 1) := by decide +kernel
theorem d_Law_law_436 : decode code 436 = .ok (.iadd, 1) := by decide +kernel
theorem d_Law_law_437 : decode code 437 = .ok (.iaload, 1) := by decide +kernel
theorem d_Law_law_438 : decode code 438 = .ok (.aload_n 0, 1) := by decide +kernel
theorem d_Law_law_439 : decode code 439 = .ok (.iload 4, 2) := by decide +kernel
theorem d_Law_law_441 : decode code 441 = .ok (.iconst 3, 1) := by decide +kernel
theorem d_Law_law_442 : decode code 442 = .ok (.iadd, 1) := by decide +kernel
theorem d_Law_law_443 : decode code 443 = .ok (.iaload, 1) := by decide +kernel
theorem d_Law_law_444 : decode code 444 = .ok (.i2l, 1) := by decide +kernel
theorem d_Law_law_445 : decode code 445 = .ok (.bipush 32, 2) := by decide +kernel
theorem d_Law_law_447 : decode code 447 = .ok (.lshl, 1) := by decide +kernel
theorem d_Law_law_448 : decode code 448 = .ok (.aload_n 0, 1) := by decide +kernel
theorem d_Law_law_449 : decode code 449 = .ok (.iload 4, 2) := by decide +kernel
theorem d_Law_law_451 : decode code 451 = .ok (.iconst 4, 1) := by decide +kernel
theorem d_Law_law_452 : decode code 452 = .ok (.iadd, 1) := by decide +kernel
theorem d_Law_law_453 : decode code 453 = .ok (.iaload, 1) := by decide +kernel
theorem d_Law_law_454 : decode code 454 = .ok (.i2l, 1) := by decide +kernel
theorem d_Law_law_455 : decode code 455 = .ok (.ldc2_w 60, 3) := by decide +kernel
theorem d_Law_law_458 : decode code 458 = .ok (.land, 1) := by decide +kernel
theorem d_Law_law_459 : decode code 459 = .ok (.lor, 1) := by decide +kernel
theorem d_Law_law_460 : decode code 460 = .ok (.aload_n 0, 1) := by decide +kernel
theorem d_Law_law_461 : decode code 461 = .ok (.iload 4, 2) := by decide +kernel
theorem d_Law_law_463 : decode code 463 = .ok (.iconst 5, 1) := by decide +kernel
theorem d_Law_law_464 : decode code 464 = .ok (.iadd, 1) := by decide +kernel
theorem d_Law_law_465 : decode code 465 = .ok (.iaload, 1) := by decide +kernel
theorem d_Law_law_466 : decode code 466 = .ok (.i2l, 1) := by decide +kernel
theorem d_Law_law_467 : decode code 467 = .ok (.bipush 32, 2) := by decide +kernel
theorem d_Law_law_469 : decode code 469 = .ok (.lshl, 1) := by decide +kernel
theorem d_Law_law_470 : decode code 470 = .ok (.aload_n 0, 1) := by decide +kernel
theorem d_Law_law_471 : decode code 471 = .ok (.iload 4, 2) := by decide +kernel
theorem d_Law_law_473 : decode code 473 = .ok (.bipush 6, 2) := by decide +kernel
theorem d_Law_law_475 : decode code 475 = .ok (.iadd, 1) := by decide +kernel
theorem d_Law_law_476 : decode code 476 = .ok (.iaload, 1) := by decide +kernel
theorem d_Law_law_477 : decode code 477 = .ok (.i2l, 1) := by decide +kernel
theorem d_Law_law_478 : decode code 478 = .ok (.ldc2_w 60, 3) := by decide +kernel
theorem d_Law_law_481 : decode code 481 = .ok (.land, 1) := by decide +kernel
theorem d_Law_law_482 : decode code 482 = .ok (.lor, 1) := by decide +kernel
theorem d_Law_law_483 : decode code 483 = .ok (.invokevirtual 82, 3) := by decide +kernel
theorem d_Law_law_486 : decode code 486 = .ok (.istore 6, 2) := by decide +kernel
theorem d_Law_law_488 : decode code 488 = .ok (.aload_n 2, 1) := by decide +kernel
theorem d_Law_law_489 : decode code 489 = .ok (.invokevirtual 68, 3) := by decide +kernel
theorem d_Law_law_492 : decode code 492 = .ok (.iload 5, 2) := by decide +kernel
theorem d_Law_law_494 : decode code 494 = .ok (.if_icmp .eq 5, 3) := by decide +kernel
theorem d_Law_law_497 : decode code 497 = .ok (.iconst 0, 1) := by decide +kernel
theorem d_Law_law_498 : decode code 498 = .ok (.ireturn, 1) := by decide +kernel
theorem d_Law_law_499 : decode code 499 = .ok (.iload 5, 2) := by decide +kernel
theorem d_Law_law_501 : decode code 501 = .ok (.ifCond .ne 22, 3) := by decide +kernel
theorem d_Law_law_504 : decode code 504 = .ok (.aload_n 3, 1) := by decide +kernel
theorem d_Law_law_505 : decode code 505 = .ok (.iconst 0, 1) := by decide +kernel
theorem d_Law_law_506 : decode code 506 = .ok (.laload, 1) := by decide +kernel
theorem d_Law_law_507 : decode code 507 = .ok (.iload 6, 2) := by decide +kernel
theorem d_Law_law_509 : decode code 509 = .ok (.ifCond .eq 7, 3) := by decide +kernel
theorem d_Law_law_512 : decode code 512 = .ok (.lconst 1, 1) := by decide +kernel
theorem d_Law_law_513 : decode code 513 = .ok (.goto 4, 3) := by decide +kernel
theorem d_Law_law_516 : decode code 516 = .ok (.lconst 0, 1) := by decide +kernel
theorem d_Law_law_517 : decode code 517 = .ok (.lcmp, 1) := by decide +kernel
theorem d_Law_law_518 : decode code 518 = .ok (.ifCond .eq 5, 3) := by decide +kernel
