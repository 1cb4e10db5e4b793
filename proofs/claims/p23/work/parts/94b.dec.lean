/-! the law's code, row by row (1) -/
theorem tdl_358 : decode code 358 = .ok (.iadd, 1) := by decide +kernel
theorem tdl_359 : decode code 359 = .ok (.iaload, 1) := by decide +kernel
theorem tdl_360 : decode code 360 = .ok (.invokevirtual 35, 3) := by decide +kernel
theorem tdl_363 : decode code 363 = .ok (.pop, 1) := by decide +kernel
theorem tdl_364 : decode code 364 = .ok (.goto 996, 3) := by decide +kernel
theorem tdl_367 : decode code 367 = .ok (.aload_n 1, 1) := by decide +kernel
theorem tdl_368 : decode code 368 = .ok (.aload_n 0, 1) := by decide +kernel
theorem tdl_369 : decode code 369 = .ok (.iload_n 3, 1) := by decide +kernel
theorem tdl_370 : decode code 370 = .ok (.iconst 1, 1) := by decide +kernel
theorem tdl_371 : decode code 371 = .ok (.iadd, 1) := by decide +kernel
theorem tdl_372 : decode code 372 = .ok (.iaload, 1) := by decide +kernel
theorem tdl_373 : decode code 373 = .ok (.aload_n 0, 1) := by decide +kernel
theorem tdl_374 : decode code 374 = .ok (.iload_n 3, 1) := by decide +kernel
theorem tdl_375 : decode code 375 = .ok (.iconst 2, 1) := by decide +kernel
theorem tdl_376 : decode code 376 = .ok (.iadd, 1) := by decide +kernel
theorem tdl_377 : decode code 377 = .ok (.iaload, 1) := by decide +kernel
theorem tdl_378 : decode code 378 = .ok (.aload_n 0, 1) := by decide +kernel
theorem tdl_379 : decode code 379 = .ok (.iload_n 3, 1) := by decide +kernel
theorem tdl_380 : decode code 380 = .ok (.iconst 3, 1) := by decide +kernel
theorem tdl_381 : decode code 381 = .ok (.iadd, 1) := by decide +kernel
theorem tdl_382 : decode code 382 = .ok (.iaload, 1) := by decide +kernel
theorem tdl_383 : decode code 383 = .ok (.invokevirtual 36, 3) := by decide +kernel
theorem tdl_386 : decode code 386 = .ok (.pop, 1) := by decide +kernel
theorem tdl_387 : decode code 387 = .ok (.aload_n 2, 1) := by decide +kernel
theorem tdl_388 : decode code 388 = .ok (.aload_n 0, 1) := by decide +kernel
theorem tdl_389 : decode code 389 = .ok (.iload_n 3, 1) := by decide +kernel
theorem tdl_390 : decode code 390 = .ok (.iconst 1, 1) := by decide +kernel
theorem tdl_391 : decode code 391 = .ok (.iadd, 1) := by decide +kernel
theorem tdl_392 : decode code 392 = .ok (.iaload, 1) := by decide +kernel
theorem tdl_393 : decode code 393 = .ok (.aload_n 0, 1) := by decide +kernel
theorem tdl_394 : decode code 394 = .ok (.iload_n 3, 1) := by decide +kernel
theorem tdl_395 : decode code 395 = .ok (.iconst 2, 1) := by decide +kernel
theorem tdl_396 : decode code 396 = .ok (.iadd, 1) := by decide +kernel
theorem tdl_397 : decode code 397 = .ok (.iaload, 1) := by decide +kernel
theorem tdl_398 : decode code 398 = .ok (.aload_n 0, 1) := by decide +kernel
theorem tdl_399 : decode code 399 = .ok (.iload_n 3, 1) := by decide +kernel
theorem tdl_400 : decode code 400 = .ok (.iconst 3, 1) := by decide +kernel
theorem tdl_401 : decode code 401 = .ok (.iadd, 1) := by decide +kernel
theorem tdl_402 : decode code 402 = .ok (.iaload, 1) := by decide +kernel
theorem tdl_403 : decode code 403 = .ok (.invokevirtual 39, 3) := by decide +kernel
theorem tdl_406 : decode code 406 = .ok (.pop, 1) := by decide +kernel
theorem tdl_407 : decode code 407 = .ok (.goto 953, 3) := by decide +kernel
theorem tdl_410 : decode code 410 = .ok (.aload_n 1, 1) := by decide +kernel
theorem tdl_411 : decode code 411 = .ok (.aload_n 0, 1) := by decide +kernel
theorem tdl_412 : decode code 412 = .ok (.iload_n 3, 1) := by decide +kernel
theorem tdl_413 : decode code 413 = .ok (.iconst 1, 1) := by decide +kernel
theorem tdl_414 : decode code 414 = .ok (.iadd, 1) := by decide +kernel
theorem tdl_415 : decode code 415 = .ok (.iaload, 1) := by decide +kernel
theorem tdl_416 : decode code 416 = .ok (.aload_n 0, 1) := by decide +kernel
theorem tdl_417 : decode code 417 = .ok (.iload_n 3, 1) := by decide +kernel
theorem tdl_418 : decode code 418 = .ok (.iconst 2, 1) := by decide +kernel
theorem tdl_419 : decode code 419 = .ok (.iadd, 1) := by decide +kernel
theorem tdl_420 : decode code 420 = .ok (.iaload, 1) := by decide +kernel
theorem tdl_421 : decode code 421 = .ok (.invokevirtual 40, 3) := by decide +kernel
theorem tdl_424 : decode code 424 = .ok (.pop, 1) := by decide +kernel
theorem tdl_425 : decode code 425 = .ok (.aload_n 2, 1) := by decide +kernel
theorem tdl_426 : decode code 426 = .ok (.aload_n 0, 1) := by decide +kernel
theorem tdl_427 : decode code 427 = .ok (.iload_n 3, 1) := by decide +kernel
theorem tdl_428 : decode code 428 = .ok (.iconst 1, 1) := by decide +kernel
theorem tdl_429 : decode code 429 = .ok (.iadd, 1) := by decide +kernel
theorem tdl_430 : decode code 430 = .ok (.iaload, 1) := by decide +kernel
theorem tdl_431 : decode code 431 = .ok (.aload_n 0, 1) := by decide +kernel
theorem tdl_432 : decode code 432 = .ok (.iload_n 3, 1) := by decide +kernel
theorem tdl_433 : decode code 433 = .ok (.iconst 2, 1) := by decide +kernel
theorem tdl_434 : decode code 434 = .ok (.iadd, 1) := by decide +kernel
theorem tdl_435 : decode code 435 = .ok (.iaload, 1) := by decide +kernel
theorem tdl_436 : decode code 436 = .ok (.invokevirtual 43, 3) := by decide +kernel
theorem tdl_439 : decode code 439 = .ok (.pop, 1) := by decide +kernel
theorem tdl_440 : decode code 440 = .ok (.goto 920, 3) := by decide +kernel
theorem tdl_443 : decode code 443 = .ok (.aload_n 1, 1) := by decide +kernel
theorem tdl_444 : decode code 444 = .ok (.aload_n 0, 1) := by decide +kernel
theorem tdl_445 : decode code 445 = .ok (.iload_n 3, 1) := by decide +kernel
theorem tdl_446 : decode code 446 = .ok (.iconst 1, 1) := by decide +kernel
theorem tdl_447 : decode code 447 = .ok (.iadd, 1) := by decide +kernel
theorem tdl_448 : decode code 448 = .ok (.iaload, 1) := by decide +kernel
theorem tdl_449 : decode code 449 = .ok (.invokevirtual 44, 3) := by decide +kernel
theorem tdl_452 : decode code 452 = .ok (.pop, 1) := by decide +kernel
theorem tdl_453 : decode code 453 = .ok (.aload_n 2, 1) := by decide +kernel
theorem tdl_454 : decode code 454 = .ok (.aload_n 0, 1) := by decide +kernel
theorem tdl_455 : decode code 455 = .ok (.iload_n 3, 1) := by decide +kernel
theorem tdl_456 : decode code 456 = .ok (.iconst 1, 1) := by decide +kernel
theorem tdl_457 : decode code 457 = .ok (.iadd, 1) := by decide +kernel
theorem tdl_458 : decode code 458 = .ok (.iaload, 1) := by decide +kernel
theorem tdl_459 : decode code 459 = .ok (.invokevirtual 48, 3) := by decide +kernel
theorem tdl_462 : decode code 462 = .ok (.pop, 1) := by decide +kernel
theorem tdl_463 : decode code 463 = .ok (.goto 897, 3) := by decide +kernel
theorem tdl_466 : decode code 466 = .ok (.aload_n 1, 1) := by decide +kernel
theorem tdl_467 : decode code 467 = .ok (.aload_n 0, 1) := by decide +kernel
theorem tdl_468 : decode code 468 = .ok (.iload_n 3, 1) := by decide +kernel
theorem tdl_469 : decode code 469 = .ok (.iconst 1, 1) := by decide +kernel
theorem tdl_470 : decode code 470 = .ok (.iadd, 1) := by decide +kernel
theorem tdl_471 : decode code 471 = .ok (.iaload, 1) := by decide +kernel
theorem tdl_472 : decode code 472 = .ok (.aload_n 0, 1) := by decide +kernel
theorem tdl_473 : decode code 473 = .ok (.iload_n 3, 1) := by decide +kernel
theorem tdl_474 : decode code 474 = .ok (.iconst 2, 1) := by decide +kernel
theorem tdl_475 : decode code 475 = .ok (.iadd, 1) := by decide +kernel
theorem tdl_476 : decode code 476 = .ok (.iaload, 1) := by decide +kernel
theorem tdl_477 : decode code 477 = .ok (.aload_n 0, 1) := by decide +kernel
theorem tdl_478 : decode code 478 = .ok (.iload_n 3, 1) := by decide +kernel
theorem tdl_479 : decode code 479 = .ok (.iconst 3, 1) := by decide +kernel
theorem tdl_480 : decode code 480 = .ok (.iadd, 1) := by decide +kernel
theorem tdl_481 : decode code 481 = .ok (.iaload, 1) := by decide +kernel
theorem tdl_482 : decode code 482 = .ok (.invokevirtual 49, 3) := by decide +kernel
theorem tdl_485 : decode code 485 = .ok (.pop, 1) := by decide +kernel
theorem tdl_486 : decode code 486 = .ok (.aload_n 2, 1) := by decide +kernel
theorem tdl_487 : decode code 487 = .ok (.aload_n 0, 1) := by decide +kernel
theorem tdl_488 : decode code 488 = .ok (.iload_n 3, 1) := by decide +kernel
theorem tdl_489 : decode code 489 = .ok (.iconst 1, 1) := by decide +kernel
theorem tdl_490 : decode code 490 = .ok (.iadd, 1) := by decide +kernel
theorem tdl_491 : decode code 491 = .ok (.iaload, 1) := by decide +kernel
theorem tdl_492 : decode code 492 = .ok (.aload_n 0, 1) := by decide +kernel
theorem tdl_493 : decode code 493 = .ok (.iload_n 3, 1) := by decide +kernel
theorem tdl_494 : decode code 494 = .ok (.iconst 2, 1) := by decide +kernel
theorem tdl_495 : decode code 495 = .ok (.iadd, 1) := by decide +kernel
theorem tdl_496 : decode code 496 = .ok (.iaload, 1) := by decide +kernel
theorem tdl_497 : decode code 497 = .ok (.aload_n 0, 1) := by decide +kernel
theorem tdl_498 : decode code 498 = .ok (.iload_n 3, 1) := by decide +kernel
theorem tdl_499 : decode code 499 = .ok (.iconst 3, 1) := by decide +kernel
theorem tdl_500 : decode code 500 = .ok (.iadd, 1) := by decide +kernel
theorem tdl_501 : decode code 501 = .ok (.iaload, 1) := by decide +kernel
theorem tdl_502 : decode code 502 = .ok (.invokevirtual 52, 3) := by decide +kernel
theorem tdl_505 : decode code 505 = .ok (.pop, 1) := by decide +kernel
theorem tdl_506 : decode code 506 = .ok (.goto 854, 3) := by decide +kernel
theorem tdl_509 : decode code 509 = .ok (.aload_n 1, 1) := by decide +kernel
theorem tdl_510 : decode code 510 = .ok (.aload_n 0, 1) := by decide +kernel
theorem tdl_511 : decode code 511 = .ok (.iload_n 3, 1) := by decide +kernel
theorem tdl_512 : decode code 512 = .ok (.iconst 1, 1) := by decide +kernel
theorem tdl_513 : decode code 513 = .ok (.iadd, 1) := by decide +kernel
theorem tdl_514 : decode code 514 = .ok (.iaload, 1) := by decide +kernel
theorem tdl_515 : decode code 515 = .ok (.aload_n 0, 1) := by decide +kernel
theorem tdl_516 : decode code 516 = .ok (.iload_n 3, 1) := by decide +kernel
theorem tdl_517 : decode code 517 = .ok (.iconst 2, 1) := by decide +kernel
theorem tdl_518 : decode code 518 = .ok (.iadd, 1) := by decide +kernel
theorem tdl_519 : decode code 519 = .ok (.iaload, 1) := by decide +kernel
theorem tdl_520 : decode code 520 = .ok (.aload_n 0, 1) := by decide +kernel
theorem tdl_521 : decode code 521 = .ok (.iload_n 3, 1) := by decide +kernel
theorem tdl_522 : decode code 522 = .ok (.iconst 3, 1) := by decide +kernel
theorem tdl_523 : decode code 523 = .ok (.iadd, 1) := by decide +kernel
theorem tdl_524 : decode code 524 = .ok (.iaload, 1) := by decide +kernel
theorem tdl_525 : decode code 525 = .ok (.invokevirtual 53, 3) := by decide +kernel
theorem tdl_528 : decode code 528 = .ok (.pop, 1) := by decide +kernel
theorem tdl_529 : decode code 529 = .ok (.aload_n 2, 1) := by decide +kernel
theorem tdl_530 : decode code 530 = .ok (.aload_n 0, 1) := by decide +kernel
theorem tdl_531 : decode code 531 = .ok (.iload_n 3, 1) := by decide +kernel
theorem tdl_532 : decode code 532 = .ok (.iconst 1, 1) := by decide +kernel
theorem tdl_533 : decode code 533 = .ok (.iadd, 1) := by decide +kernel
theorem tdl_534 : decode code 534 = .ok (.iaload, 1) := by decide +kernel
theorem tdl_535 : decode code 535 = .ok (.aload_n 0, 1) := by decide +kernel
theorem tdl_536 : decode code 536 = .ok (.iload_n 3, 1) := by decide +kernel
theorem tdl_537 : decode code 537 = .ok (.iconst 2, 1) := by decide +kernel
theorem tdl_538 : decode code 538 = .ok (.iadd, 1) := by decide +kernel
theorem tdl_539 : decode code 539 = .ok (.iaload, 1) := by decide +kernel
theorem tdl_540 : decode code 540 = .ok (.aload_n 0, 1) := by decide +kernel
theorem tdl_541 : decode code 541 = .ok (.iload_n 3, 1) := by decide +kernel
theorem tdl_542 : decode code 542 = .ok (.iconst 3, 1) := by decide +kernel
theorem tdl_543 : decode code 543 = .ok (.iadd, 1) := by decide +kernel
theorem tdl_544 : decode code 544 = .ok (.iaload, 1) := by decide +kernel
theorem tdl_545 : decode code 545 = .ok (.invokevirtual 56, 3) := by decide +kernel
theorem tdl_548 : decode code 548 = .ok (.pop, 1) := by decide +kernel
theorem tdl_549 : decode code 549 = .ok (.goto 811, 3) := by decide +kernel
theorem tdl_552 : decode code 552 = .ok (.aload_n 1, 1) := by decide +kernel
theorem tdl_553 : decode code 553 = .ok (.aload_n 0, 1) := by decide +kernel
