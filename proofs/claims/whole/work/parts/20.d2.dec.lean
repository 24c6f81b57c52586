/-! The law: what stands at its places, 2. -/
theorem dC_338 : decode code 338 = .ok (.ifCond .ne 22, 3) := by decide +kernel
theorem dC_341 : decode code 341 = .ok (.aload_n 3, 1) := by decide +kernel
theorem dC_342 : decode code 342 = .ok (.iconst 0, 1) := by decide +kernel
theorem dC_343 : decode code 343 = .ok (.laload, 1) := by decide +kernel
theorem dC_344 : decode code 344 = .ok (.iload 7, 2) := by decide +kernel
theorem dC_346 : decode code 346 = .ok (.ifCond .eq 7, 3) := by decide +kernel
theorem dC_349 : decode code 349 = .ok (.lconst 1, 1) := by decide +kernel
theorem dC_350 : decode code 350 = .ok (.goto 4, 3) := by decide +kernel
theorem dC_353 : decode code 353 = .ok (.lconst 0, 1) := by decide +kernel
theorem dC_354 : decode code 354 = .ok (.lcmp, 1) := by decide +kernel
theorem dC_355 : decode code 355 = .ok (.ifCond .eq 5, 3) := by decide +kernel
theorem dC_360 : decode code 360 = .ok (.goto 1391, 3) := by decide +kernel
theorem dC_363 : decode code 363 = .ok (.aload_n 1, 1) := by decide +kernel
theorem dC_364 : decode code 364 = .ok (.aload_n 0, 1) := by decide +kernel
theorem dC_365 : decode code 365 = .ok (.iload 5, 2) := by decide +kernel
theorem dC_367 : decode code 367 = .ok (.iconst 1, 1) := by decide +kernel
theorem dC_368 : decode code 368 = .ok (.iadd, 1) := by decide +kernel
theorem dC_369 : decode code 369 = .ok (.iaload, 1) := by decide +kernel
theorem dC_370 : decode code 370 = .ok (.aload_n 0, 1) := by decide +kernel
theorem dC_371 : decode code 371 = .ok (.iload 5, 2) := by decide +kernel
theorem dC_373 : decode code 373 = .ok (.iconst 2, 1) := by decide +kernel
theorem dC_374 : decode code 374 = .ok (.iadd, 1) := by decide +kernel
theorem dC_375 : decode code 375 = .ok (.iaload, 1) := by decide +kernel
theorem dC_376 : decode code 376 = .ok (.aload_n 0, 1) := by decide +kernel
theorem dC_377 : decode code 377 = .ok (.iload 5, 2) := by decide +kernel
theorem dC_379 : decode code 379 = .ok (.iconst 3, 1) := by decide +kernel
theorem dC_380 : decode code 380 = .ok (.iadd, 1) := by decide +kernel
theorem dC_381 : decode code 381 = .ok (.iaload, 1) := by decide +kernel
theorem dC_382 : decode code 382 = .ok (.invokestatic 121, 3) := by decide +kernel
theorem dC_385 : decode code 385 = .ok (.istore 6, 2) := by decide +kernel
theorem dC_387 : decode code 387 = .ok (.aload_n 2, 1) := by decide +kernel
theorem dC_388 : decode code 388 = .ok (.aload_n 0, 1) := by decide +kernel
theorem dC_389 : decode code 389 = .ok (.iload 5, 2) := by decide +kernel
theorem dC_391 : decode code 391 = .ok (.iconst 1, 1) := by decide +kernel
theorem dC_392 : decode code 392 = .ok (.iadd, 1) := by decide +kernel
theorem dC_393 : decode code 393 = .ok (.iaload, 1) := by decide +kernel
theorem dC_394 : decode code 394 = .ok (.aload_n 0, 1) := by decide +kernel
theorem dC_395 : decode code 395 = .ok (.iload 5, 2) := by decide +kernel
theorem dC_397 : decode code 397 = .ok (.iconst 2, 1) := by decide +kernel
theorem dC_398 : decode code 398 = .ok (.iadd, 1) := by decide +kernel
theorem dC_399 : decode code 399 = .ok (.iaload, 1) := by decide +kernel
theorem dC_400 : decode code 400 = .ok (.aload_n 0, 1) := by decide +kernel
theorem dC_401 : decode code 401 = .ok (.iload 5, 2) := by decide +kernel
theorem dC_403 : decode code 403 = .ok (.iconst 3, 1) := by decide +kernel
theorem dC_404 : decode code 404 = .ok (.iadd, 1) := by decide +kernel
theorem dC_405 : decode code 405 = .ok (.iaload, 1) := by decide +kernel
theorem dC_406 : decode code 406 = .ok (.invokevirtual 124, 3) := by decide +kernel
theorem dC_409 : decode code 409 = .ok (.aload_n 2, 1) := by decide +kernel
theorem dC_410 : decode code 410 = .ok (.invokevirtual 110, 3) := by decide +kernel
theorem dC_413 : decode code 413 = .ok (.iload 6, 2) := by decide +kernel
theorem dC_415 : decode code 415 = .ok (.if_icmp .eq 5, 3) := by decide +kernel
theorem dC_420 : decode code 420 = .ok (.goto 1331, 3) := by decide +kernel
theorem dC_423 : decode code 423 = .ok (.aload_n 1, 1) := by decide +kernel
theorem dC_424 : decode code 424 = .ok (.aload_n 0, 1) := by decide +kernel
theorem dC_425 : decode code 425 = .ok (.iload 5, 2) := by decide +kernel
theorem dC_427 : decode code 427 = .ok (.iconst 1, 1) := by decide +kernel
theorem dC_428 : decode code 428 = .ok (.iadd, 1) := by decide +kernel
theorem dC_429 : decode code 429 = .ok (.iaload, 1) := by decide +kernel
theorem dC_430 : decode code 430 = .ok (.aload_n 0, 1) := by decide +kernel
theorem dC_431 : decode code 431 = .ok (.iload 5, 2) := by decide +kernel
theorem dC_433 : decode code 433 = .ok (.iconst 2, 1) := by decide +kernel
theorem dC_434 : decode code 434 = .ok (.iadd, 1) := by decide +kernel
theorem dC_435 : decode code 435 = .ok (.iaload, 1) := by decide +kernel
theorem dC_436 : decode code 436 = .ok (.aload_n 0, 1) := by decide +kernel
theorem dC_437 : decode code 437 = .ok (.iload 5, 2) := by decide +kernel
theorem dC_439 : decode code 439 = .ok (.iconst 3, 1) := by decide +kernel
theorem dC_440 : decode code 440 = .ok (.iadd, 1) := by decide +kernel
theorem dC_441 : decode code 441 = .ok (.iaload, 1) := by decide +kernel
theorem dC_442 : decode code 442 = .ok (.aload_n 0, 1) := by decide +kernel
theorem dC_443 : decode code 443 = .ok (.iload 5, 2) := by decide +kernel
theorem dC_445 : decode code 445 = .ok (.iconst 4, 1) := by decide +kernel
theorem dC_446 : decode code 446 = .ok (.iadd, 1) := by decide +kernel
theorem dC_447 : decode code 447 = .ok (.iaload, 1) := by decide +kernel
theorem dC_448 : decode code 448 = .ok (.invokestatic 125, 3) := by decide +kernel
theorem dC_451 : decode code 451 = .ok (.istore 6, 2) := by decide +kernel
theorem dC_453 : decode code 453 = .ok (.aload_n 2, 1) := by decide +kernel
theorem dC_454 : decode code 454 = .ok (.aload_n 0, 1) := by decide +kernel
theorem dC_455 : decode code 455 = .ok (.iload 5, 2) := by decide +kernel
theorem dC_457 : decode code 457 = .ok (.iconst 1, 1) := by decide +kernel
theorem dC_458 : decode code 458 = .ok (.iadd, 1) := by decide +kernel
theorem dC_459 : decode code 459 = .ok (.iaload, 1) := by decide +kernel
theorem dC_460 : decode code 460 = .ok (.aload_n 0, 1) := by decide +kernel
theorem dC_461 : decode code 461 = .ok (.iload 5, 2) := by decide +kernel
theorem dC_463 : decode code 463 = .ok (.iconst 2, 1) := by decide +kernel
theorem dC_464 : decode code 464 = .ok (.iadd, 1) := by decide +kernel
theorem dC_465 : decode code 465 = .ok (.iaload, 1) := by decide +kernel
theorem dC_466 : decode code 466 = .ok (.aload_n 0, 1) := by decide +kernel
theorem dC_467 : decode code 467 = .ok (.iload 5, 2) := by decide +kernel
theorem dC_469 : decode code 469 = .ok (.iconst 3, 1) := by decide +kernel
theorem dC_470 : decode code 470 = .ok (.iadd, 1) := by decide +kernel
theorem dC_471 : decode code 471 = .ok (.iaload, 1) := by decide +kernel
theorem dC_472 : decode code 472 = .ok (.aload_n 0, 1) := by decide +kernel
theorem dC_473 : decode code 473 = .ok (.iload 5, 2) := by decide +kernel
theorem dC_475 : decode code 475 = .ok (.iconst 4, 1) := by decide +kernel
theorem dC_476 : decode code 476 = .ok (.iadd, 1) := by decide +kernel
theorem dC_477 : decode code 477 = .ok (.iaload, 1) := by decide +kernel
theorem dC_478 : decode code 478 = .ok (.invokevirtual 128, 3) := by decide +kernel
theorem dC_481 : decode code 481 = .ok (.aload_n 2, 1) := by decide +kernel
theorem dC_482 : decode code 482 = .ok (.invokevirtual 110, 3) := by decide +kernel
theorem dC_485 : decode code 485 = .ok (.iload 6, 2) := by decide +kernel
theorem dC_487 : decode code 487 = .ok (.if_icmp .eq 5, 3) := by decide +kernel
theorem dC_492 : decode code 492 = .ok (.goto 1259, 3) := by decide +kernel
theorem dC_495 : decode code 495 = .ok (.aload_n 1, 1) := by decide +kernel
theorem dC_496 : decode code 496 = .ok (.aload_n 0, 1) := by decide +kernel
theorem dC_497 : decode code 497 = .ok (.iload 5, 2) := by decide +kernel
theorem dC_499 : decode code 499 = .ok (.iconst 1, 1) := by decide +kernel
theorem dC_500 : decode code 500 = .ok (.iadd, 1) := by decide +kernel
theorem dC_501 : decode code 501 = .ok (.iaload, 1) := by decide +kernel
theorem dC_502 : decode code 502 = .ok (.aload_n 0, 1) := by decide +kernel
theorem dC_503 : decode code 503 = .ok (.iload 5, 2) := by decide +kernel
theorem dC_505 : decode code 505 = .ok (.iconst 2, 1) := by decide +kernel
theorem dC_506 : decode code 506 = .ok (.iadd, 1) := by decide +kernel
theorem dC_507 : decode code 507 = .ok (.iaload, 1) := by decide +kernel
theorem dC_508 : decode code 508 = .ok (.aload_n 0, 1) := by decide +kernel
theorem dC_509 : decode code 509 = .ok (.iload 5, 2) := by decide +kernel
theorem dC_511 : decode code 511 = .ok (.iconst 3, 1) := by decide +kernel
theorem dC_512 : decode code 512 = .ok (.iadd, 1) := by decide +kernel
theorem dC_513 : decode code 513 = .ok (.iaload, 1) := by decide +kernel
theorem dC_514 : decode code 514 = .ok (.invokestatic 129, 3) := by decide +kernel
theorem dC_517 : decode code 517 = .ok (.istore 6, 2) := by decide +kernel
theorem dC_519 : decode code 519 = .ok (.aload_n 2, 1) := by decide +kernel
theorem dC_520 : decode code 520 = .ok (.aload_n 0, 1) := by decide +kernel
theorem dC_521 : decode code 521 = .ok (.iload 5, 2) := by decide +kernel
theorem dC_523 : decode code 523 = .ok (.iconst 1, 1) := by decide +kernel
theorem dC_524 : decode code 524 = .ok (.iadd, 1) := by decide +kernel
theorem dC_525 : decode code 525 = .ok (.iaload, 1) := by decide +kernel
theorem dC_526 : decode code 526 = .ok (.aload_n 0, 1) := by decide +kernel
theorem dC_527 : decode code 527 = .ok (.iload 5, 2) := by decide +kernel
theorem dC_529 : decode code 529 = .ok (.iconst 2, 1) := by decide +kernel
theorem dC_530 : decode code 530 = .ok (.iadd, 1) := by decide +kernel
