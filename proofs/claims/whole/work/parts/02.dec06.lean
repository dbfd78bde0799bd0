theorem dX11_settles_320 : decode cX11_settles 320 = .ok (.iconst 0, 1) := by decide +kernel
theorem dX11_settles_321 : decode cX11_settles 321 = .ok (.istore_n 3, 1) := by decide +kernel
theorem dX11_settles_322 : decode cX11_settles 322 = .ok (.iload_n 3, 1) := by decide +kernel
theorem dX11_settles_323 : decode cX11_settles 323 = .ok (.bipush 60, 2) := by decide +kernel
theorem dX11_settles_325 : decode cX11_settles 325 = .ok (.if_icmp .ge 24, 3) := by decide +kernel
theorem dX11_settles_328 : decode cX11_settles 328 = .ok (.aload_n 0, 1) := by decide +kernel
theorem dX11_settles_329 : decode cX11_settles 329 = .ok (.getfield 14, 3) := by decide +kernel
theorem dX11_settles_332 : decode cX11_settles 332 = .ok (.bipush 64, 2) := by decide +kernel
theorem dX11_settles_334 : decode cX11_settles 334 = .ok (.iload_n 3, 1) := by decide +kernel
theorem dX11_settles_335 : decode cX11_settles 335 = .ok (.iadd, 1) := by decide +kernel
theorem dX11_settles_336 : decode cX11_settles 336 = .ok (.aload_n 0, 1) := by decide +kernel
theorem dX11_settles_337 : decode cX11_settles 337 = .ok (.getfield 70, 3) := by decide +kernel
theorem dX11_settles_340 : decode cX11_settles 340 = .ok (.iload_n 3, 1) := by decide +kernel
theorem dX11_settles_341 : decode cX11_settles 341 = .ok (.iaload, 1) := by decide +kernel
theorem dX11_settles_342 : decode cX11_settles 342 = .ok (.iastore, 1) := by decide +kernel
theorem dX11_settles_343 : decode cX11_settles 343 = .ok (.iinc 3 1, 3) := by decide +kernel
theorem dX11_settles_346 : decode cX11_settles 346 = .ok (.goto (-24), 3) := by decide +kernel
theorem dX11_settles_349 : decode cX11_settles 349 = .ok (.iconst 0, 1) := by decide +kernel
theorem dX11_settles_350 : decode cX11_settles 350 = .ok (.istore_n 3, 1) := by decide +kernel
theorem dX11_settles_351 : decode cX11_settles 351 = .ok (.iload_n 3, 1) := by decide +kernel
theorem dX11_settles_352 : decode cX11_settles 352 = .ok (.aload_n 0, 1) := by decide +kernel
theorem dX11_settles_353 : decode cX11_settles 353 = .ok (.getfield 14, 3) := by decide +kernel
theorem dX11_settles_356 : decode cX11_settles 356 = .ok (.bipush 7, 2) := by decide +kernel
theorem dX11_settles_358 : decode cX11_settles 358 = .ok (.iaload, 1) := by decide +kernel
theorem dX11_settles_359 : decode cX11_settles 359 = .ok (.if_icmp .ge 66, 3) := by decide +kernel
theorem dX11_settles_362 : decode cX11_settles 362 = .ok (.aload_n 0, 1) := by decide +kernel
theorem dX11_settles_363 : decode cX11_settles 363 = .ok (.getfield 14, 3) := by decide +kernel
theorem dX11_settles_366 : decode cX11_settles 366 = .ok (.bipush 64, 2) := by decide +kernel
theorem dX11_settles_368 : decode cX11_settles 368 = .ok (.iconst 5, 1) := by decide +kernel
theorem dX11_settles_369 : decode cX11_settles 369 = .ok (.aload_n 0, 1) := by decide +kernel
theorem dX11_settles_370 : decode cX11_settles 370 = .ok (.getfield 14, 3) := by decide +kernel
theorem dX11_settles_373 : decode cX11_settles 373 = .ok (.sipush 4670, 3) := by decide +kernel
theorem dX11_settles_376 : decode cX11_settles 376 = .ok (.bipush 6, 2) := by decide +kernel
theorem dX11_settles_378 : decode cX11_settles 378 = .ok (.iload_n 3, 1) := by decide +kernel
theorem dX11_settles_379 : decode cX11_settles 379 = .ok (.imul, 1) := by decide +kernel
theorem dX11_settles_380 : decode cX11_settles 380 = .ok (.iadd, 1) := by decide +kernel
theorem dX11_settles_381 : decode cX11_settles 381 = .ok (.iconst 2, 1) := by decide +kernel
theorem dX11_settles_382 : decode cX11_settles 382 = .ok (.iadd, 1) := by decide +kernel
theorem dX11_settles_383 : decode cX11_settles 383 = .ok (.iaload, 1) := by decide +kernel
theorem dX11_settles_384 : decode cX11_settles 384 = .ok (.imul, 1) := by decide +kernel
theorem dX11_settles_385 : decode cX11_settles 385 = .ok (.iadd, 1) := by decide +kernel
theorem dX11_settles_386 : decode cX11_settles 386 = .ok (.aload_n 0, 1) := by decide +kernel
theorem dX11_settles_387 : decode cX11_settles 387 = .ok (.getfield 14, 3) := by decide +kernel
theorem dX11_settles_390 : decode cX11_settles 390 = .ok (.sipush 4670, 3) := by decide +kernel
theorem dX11_settles_393 : decode cX11_settles 393 = .ok (.bipush 6, 2) := by decide +kernel
theorem dX11_settles_395 : decode cX11_settles 395 = .ok (.iload_n 3, 1) := by decide +kernel
theorem dX11_settles_396 : decode cX11_settles 396 = .ok (.imul, 1) := by decide +kernel
theorem dX11_settles_397 : decode cX11_settles 397 = .ok (.iadd, 1) := by decide +kernel
theorem dX11_settles_398 : decode cX11_settles 398 = .ok (.iaload, 1) := by decide +kernel
theorem dX11_settles_399 : decode cX11_settles 399 = .ok (.iadd, 1) := by decide +kernel
theorem dX11_settles_400 : decode cX11_settles 400 = .ok (.dup2, 1) := by decide +kernel
theorem dX11_settles_401 : decode cX11_settles 401 = .ok (.iaload, 1) := by decide +kernel
theorem dX11_settles_402 : decode cX11_settles 402 = .ok (.aload_n 0, 1) := by decide +kernel
theorem dX11_settles_403 : decode cX11_settles 403 = .ok (.getfield 14, 3) := by decide +kernel
theorem dX11_settles_406 : decode cX11_settles 406 = .ok (.sipush 4670, 3) := by decide +kernel
theorem dX11_settles_409 : decode cX11_settles 409 = .ok (.bipush 6, 2) := by decide +kernel
theorem dX11_settles_411 : decode cX11_settles 411 = .ok (.iload_n 3, 1) := by decide +kernel
theorem dX11_settles_412 : decode cX11_settles 412 = .ok (.imul, 1) := by decide +kernel
theorem dX11_settles_413 : decode cX11_settles 413 = .ok (.iadd, 1) := by decide +kernel
theorem dX11_settles_414 : decode cX11_settles 414 = .ok (.iconst 3, 1) := by decide +kernel
theorem dX11_settles_415 : decode cX11_settles 415 = .ok (.iadd, 1) := by decide +kernel
theorem dX11_settles_416 : decode cX11_settles 416 = .ok (.iaload, 1) := by decide +kernel
theorem dX11_settles_417 : decode cX11_settles 417 = .ok (.iadd, 1) := by decide +kernel
theorem dX11_settles_418 : decode cX11_settles 418 = .ok (.iastore, 1) := by decide +kernel
theorem dX11_settles_419 : decode cX11_settles 419 = .ok (.iinc 3 1, 3) := by decide +kernel
theorem dX11_settles_422 : decode cX11_settles 422 = .ok (.goto (-71), 3) := by decide +kernel
theorem dX11_settles_425 : decode cX11_settles 425 = .ok (.iconst 0, 1) := by decide +kernel
theorem dX11_settles_426 : decode cX11_settles 426 = .ok (.istore_n 3, 1) := by decide +kernel
theorem dX11_settles_427 : decode cX11_settles 427 = .ok (.iload_n 3, 1) := by decide +kernel
theorem dX11_settles_428 : decode cX11_settles 428 = .ok (.bipush 60, 2) := by decide +kernel
theorem dX11_settles_430 : decode cX11_settles 430 = .ok (.if_icmp .ge 45, 3) := by decide +kernel
theorem dX11_settles_433 : decode cX11_settles 433 = .ok (.aload_n 0, 1) := by decide +kernel
theorem dX11_settles_434 : decode cX11_settles 434 = .ok (.iload_n 3, 1) := by decide +kernel
theorem dX11_settles_435 : decode cX11_settles 435 = .ok (.invokevirtual 133, 3) := by decide +kernel
theorem dX11_settles_438 : decode cX11_settles 438 = .ok (.ifCond .eq 31, 3) := by decide +kernel
theorem dX11_settles_441 : decode cX11_settles 441 = .ok (.aload_n 0, 1) := by decide +kernel
theorem dX11_settles_442 : decode cX11_settles 442 = .ok (.iload_n 3, 1) := by decide +kernel
theorem dX11_settles_443 : decode cX11_settles 443 = .ok (.bipush 7, 2) := by decide +kernel
theorem dX11_settles_445 : decode cX11_settles 445 = .ok (.invokevirtual 123, 3) := by decide +kernel
theorem dX11_settles_448 : decode cX11_settles 448 = .ok (.iload_n 1, 1) := by decide +kernel
theorem dX11_settles_449 : decode cX11_settles 449 = .ok (.if_icmp .ne 20, 3) := by decide +kernel
theorem dX11_settles_452 : decode cX11_settles 452 = .ok (.aload_n 0, 1) := by decide +kernel
theorem dX11_settles_453 : decode cX11_settles 453 = .ok (.getfield 14, 3) := by decide +kernel
theorem dX11_settles_456 : decode cX11_settles 456 = .ok (.sipush 192, 3) := by decide +kernel
theorem dX11_settles_459 : decode cX11_settles 459 = .ok (.bipush 12, 2) := by decide +kernel
theorem dX11_settles_461 : decode cX11_settles 461 = .ok (.iload_n 3, 1) := by decide +kernel
theorem dX11_settles_462 : decode cX11_settles 462 = .ok (.imul, 1) := by decide +kernel
theorem dX11_settles_463 : decode cX11_settles 463 = .ok (.iadd, 1) := by decide +kernel
theorem dX11_settles_464 : decode cX11_settles 464 = .ok (.bipush 8, 2) := by decide +kernel
theorem dX11_settles_466 : decode cX11_settles 466 = .ok (.iadd, 1) := by decide +kernel
theorem dX11_settles_467 : decode cX11_settles 467 = .ok (.iconst 2, 1) := by decide +kernel
theorem dX11_settles_468 : decode cX11_settles 468 = .ok (.iastore, 1) := by decide +kernel
theorem dX11_settles_469 : decode cX11_settles 469 = .ok (.iinc 3 1, 3) := by decide +kernel
theorem dX11_settles_472 : decode cX11_settles 472 = .ok (.goto (-45), 3) := by decide +kernel
theorem dX11_settles_475 : decode cX11_settles 475 = .ok (.iconst 0, 1) := by decide +kernel
theorem dX11_settles_476 : decode cX11_settles 476 = .ok (.istore_n 3, 1) := by decide +kernel
theorem dX11_settles_477 : decode cX11_settles 477 = .ok (.iload_n 3, 1) := by decide +kernel
theorem dX11_settles_478 : decode cX11_settles 478 = .ok (.sipush 144, 3) := by decide +kernel
theorem dX11_settles_481 : decode cX11_settles 481 = .ok (.if_icmp .ge 19, 3) := by decide +kernel
theorem dX11_settles_484 : decode cX11_settles 484 = .ok (.aload_n 0, 1) := by decide +kernel
theorem dX11_settles_485 : decode cX11_settles 485 = .ok (.getfield 18, 3) := by decide +kernel
theorem dX11_settles_488 : decode cX11_settles 488 = .ok (.bipush 24, 2) := by decide +kernel
theorem dX11_settles_490 : decode cX11_settles 490 = .ok (.iload_n 3, 1) := by decide +kernel
theorem dX11_settles_491 : decode cX11_settles 491 = .ok (.iadd, 1) := by decide +kernel
theorem dX11_settles_492 : decode cX11_settles 492 = .ok (.lconst 0, 1) := by decide +kernel
theorem dX11_settles_493 : decode cX11_settles 493 = .ok (.lastore, 1) := by decide +kernel
theorem dX11_settles_494 : decode cX11_settles 494 = .ok (.iinc 3 1, 3) := by decide +kernel
theorem dX11_settles_497 : decode cX11_settles 497 = .ok (.goto (-20), 3) := by decide +kernel
theorem dX11_settles_500 : decode cX11_settles 500 = .ok (.iconst 0, 1) := by decide +kernel
theorem dX11_settles_501 : decode cX11_settles 501 = .ok (.istore_n 3, 1) := by decide +kernel
theorem dX11_settles_502 : decode cX11_settles 502 = .ok (.iload_n 3, 1) := by decide +kernel
theorem dX11_settles_503 : decode cX11_settles 503 = .ok (.aload_n 0, 1) := by decide +kernel
theorem dX11_settles_504 : decode cX11_settles 504 = .ok (.getfield 14, 3) := by decide +kernel
theorem dX11_settles_507 : decode cX11_settles 507 = .ok (.iconst 1, 1) := by decide +kernel
theorem dX11_settles_508 : decode cX11_settles 508 = .ok (.iaload, 1) := by decide +kernel
theorem dX11_settles_509 : decode cX11_settles 509 = .ok (.if_icmp .ge 71, 3) := by decide +kernel
theorem dX11_settles_512 : decode cX11_settles 512 = .ok (.iconst 0, 1) := by decide +kernel
theorem dX11_settles_513 : decode cX11_settles 513 = .ok (.istore 4, 2) := by decide +kernel
theorem dX11_settles_515 : decode cX11_settles 515 = .ok (.iload 4, 2) := by decide +kernel
theorem dX11_settles_517 : decode cX11_settles 517 = .ok (.bipush 60, 2) := by decide +kernel
theorem dX11_settles_519 : decode cX11_settles 519 = .ok (.if_icmp .ge 55, 3) := by decide +kernel
theorem dX11_settles_522 : decode cX11_settles 522 = .ok (.aload_n 0, 1) := by decide +kernel
theorem dX11_settles_523 : decode cX11_settles 523 = .ok (.iload_n 3, 1) := by decide +kernel
theorem dX11_settles_524 : decode cX11_settles 524 = .ok (.invokevirtual 120, 3) := by decide +kernel
theorem dX11_settles_527 : decode cX11_settles 527 = .ok (.ifCond .ne 47, 3) := by decide +kernel
theorem dX11_settles_530 : decode cX11_settles 530 = .ok (.aload_n 0, 1) := by decide +kernel
theorem dX11_settles_531 : decode cX11_settles 531 = .ok (.iload 4, 2) := by decide +kernel
theorem dX11_settles_533 : decode cX11_settles 533 = .ok (.invokevirtual 127, 3) := by decide +kernel
theorem dX11_settles_536 : decode cX11_settles 536 = .ok (.ifCond .eq 32, 3) := by decide +kernel
theorem dX11_settles_539 : decode cX11_settles 539 = .ok (.aload_n 0, 1) := by decide +kernel
theorem dX11_settles_540 : decode cX11_settles 540 = .ok (.iload 4, 2) := by decide +kernel
theorem dX11_settles_542 : decode cX11_settles 542 = .ok (.iconst 1, 1) := by decide +kernel
theorem dX11_settles_543 : decode cX11_settles 543 = .ok (.invokevirtual 123, 3) := by decide +kernel
theorem dX11_settles_546 : decode cX11_settles 546 = .ok (.iload_n 3, 1) := by decide +kernel
theorem dX11_settles_547 : decode cX11_settles 547 = .ok (.if_icmp .eq 14, 3) := by decide +kernel
theorem dX11_settles_550 : decode cX11_settles 550 = .ok (.aload_n 0, 1) := by decide +kernel
theorem dX11_settles_551 : decode cX11_settles 551 = .ok (.iload 4, 2) := by decide +kernel
theorem dX11_settles_553 : decode cX11_settles 553 = .ok (.iconst 2, 1) := by decide +kernel
theorem dX11_settles_554 : decode cX11_settles 554 = .ok (.invokevirtual 123, 3) := by decide +kernel
theorem dX11_settles_557 : decode cX11_settles 557 = .ok (.iload_n 3, 1) := by decide +kernel
theorem dX11_settles_558 : decode cX11_settles 558 = .ok (.if_icmp .ne 10, 3) := by decide +kernel
theorem dX11_settles_561 : decode cX11_settles 561 = .ok (.aload_n 0, 1) := by decide +kernel
theorem dX11_settles_562 : decode cX11_settles 562 = .ok (.iload 4, 2) := by decide +kernel
theorem dX11_settles_564 : decode cX11_settles 564 = .ok (.iload_n 3, 1) := by decide +kernel
theorem dX11_settles_565 : decode cX11_settles 565 = .ok (.invokevirtual 376, 3) := by decide +kernel
theorem dX11_settles_568 : decode cX11_settles 568 = .ok (.iinc 4 1, 3) := by decide +kernel
theorem dX11_settles_571 : decode cX11_settles 571 = .ok (.goto (-56), 3) := by decide +kernel
theorem dX11_settles_574 : decode cX11_settles 574 = .ok (.iinc 3 1, 3) := by decide +kernel
theorem dX11_settles_577 : decode cX11_settles 577 = .ok (.goto (-75), 3) := by decide +kernel
theorem dX11_settles_580 : decode cX11_settles 580 = .ok (.iconst 0, 1) := by decide +kernel
theorem dX11_settles_581 : decode cX11_settles 581 = .ok (.istore_n 3, 1) := by decide +kernel
theorem dX11_settles_582 : decode cX11_settles 582 = .ok (.iload_n 3, 1) := by decide +kernel
theorem dX11_settles_583 : decode cX11_settles 583 = .ok (.aload_n 0, 1) := by decide +kernel
theorem dX11_settles_584 : decode cX11_settles 584 = .ok (.getfield 14, 3) := by decide +kernel
theorem dX11_settles_587 : decode cX11_settles 587 = .ok (.iconst 3, 1) := by decide +kernel
theorem dX11_settles_588 : decode cX11_settles 588 = .ok (.iaload, 1) := by decide +kernel
theorem dX11_settles_589 : decode cX11_settles 589 = .ok (.if_icmp .ge 62, 3) := by decide +kernel
theorem dX11_settles_592 : decode cX11_settles 592 = .ok (.aload_n 0, 1) := by decide +kernel
theorem dX11_settles_593 : decode cX11_settles 593 = .ok (.iload_n 3, 1) := by decide +kernel
theorem dX11_settles_594 : decode cX11_settles 594 = .ok (.bipush 6, 2) := by decide +kernel
theorem dX11_settles_596 : decode cX11_settles 596 = .ok (.invokevirtual 170, 3) := by decide +kernel
theorem dX11_settles_599 : decode cX11_settles 599 = .ok (.ifCond .ne 46, 3) := by decide +kernel
theorem dX11_settles_602 : decode cX11_settles 602 = .ok (.aload_n 0, 1) := by decide +kernel
theorem dX11_settles_603 : decode cX11_settles 603 = .ok (.aload_n 0, 1) := by decide +kernel
theorem dX11_settles_604 : decode cX11_settles 604 = .ok (.iload_n 3, 1) := by decide +kernel
theorem dX11_settles_605 : decode cX11_settles 605 = .ok (.iconst 0, 1) := by decide +kernel
theorem dX11_settles_606 : decode cX11_settles 606 = .ok (.invokevirtual 170, 3) := by decide +kernel
theorem dX11_settles_609 : decode cX11_settles 609 = .ok (.invokevirtual 120, 3) := by decide +kernel
theorem dX11_settles_612 : decode cX11_settles 612 = .ok (.ifCond .eq 16, 3) := by decide +kernel
theorem dX11_settles_615 : decode cX11_settles 615 = .ok (.aload_n 0, 1) := by decide +kernel
theorem dX11_settles_616 : decode cX11_settles 616 = .ok (.aload_n 0, 1) := by decide +kernel
theorem dX11_settles_617 : decode cX11_settles 617 = .ok (.iload_n 3, 1) := by decide +kernel
theorem dX11_settles_618 : decode cX11_settles 618 = .ok (.iconst 1, 1) := by decide +kernel
theorem dX11_settles_619 : decode cX11_settles 619 = .ok (.invokevirtual 170, 3) := by decide +kernel
theorem dX11_settles_622 : decode cX11_settles 622 = .ok (.invokevirtual 120, 3) := by decide +kernel
theorem dX11_settles_625 : decode cX11_settles 625 = .ok (.ifCond .ne 20, 3) := by decide +kernel
theorem dX11_settles_628 : decode cX11_settles 628 = .ok (.aload_n 0, 1) := by decide +kernel
theorem dX11_settles_629 : decode cX11_settles 629 = .ok (.getfield 14, 3) := by decide +kernel
theorem dX11_settles_632 : decode cX11_settles 632 = .ok (.sipush 912, 3) := by decide +kernel
theorem dX11_settles_635 : decode cX11_settles 635 = .ok (.bipush 7, 2) := by decide +kernel
theorem dX11_settles_637 : decode cX11_settles 637 = .ok (.iload_n 3, 1) := by decide +kernel
theorem dX11_settles_638 : decode cX11_settles 638 = .ok (.imul, 1) := by decide +kernel
theorem dX11_settles_639 : decode cX11_settles 639 = .ok (.iadd, 1) := by decide +kernel
theorem dX11_settles_640 : decode cX11_settles 640 = .ok (.bipush 6, 2) := by decide +kernel
theorem dX11_settles_642 : decode cX11_settles 642 = .ok (.iadd, 1) := by decide +kernel
theorem dX11_settles_643 : decode cX11_settles 643 = .ok (.iconst 2, 1) := by decide +kernel
theorem dX11_settles_644 : decode cX11_settles 644 = .ok (.iastore, 1) := by decide +kernel
theorem dX11_settles_645 : decode cX11_settles 645 = .ok (.iinc 3 1, 3) := by decide +kernel
theorem dX11_settles_648 : decode cX11_settles 648 = .ok (.goto (-66), 3) := by decide +kernel
theorem dX11_settles_651 : decode cX11_settles 651 = .ok (.return_, 1) := by decide +kernel
theorem dX11_paysOut_0 : decode cX11_paysOut 0 = .ok (.iconst 0, 1) := by decide +kernel
theorem dX11_paysOut_1 : decode cX11_paysOut 1 = .ok (.istore_n 3, 1) := by decide +kernel
theorem dX11_paysOut_2 : decode cX11_paysOut 2 = .ok (.iload_n 3, 1) := by decide +kernel
theorem dX11_paysOut_3 : decode cX11_paysOut 3 = .ok (.aload_n 0, 1) := by decide +kernel
theorem dX11_paysOut_4 : decode cX11_paysOut 4 = .ok (.getfield 14, 3) := by decide +kernel
theorem dX11_paysOut_7 : decode cX11_paysOut 7 = .ok (.iconst 1, 1) := by decide +kernel
theorem dX11_paysOut_8 : decode cX11_paysOut 8 = .ok (.iaload, 1) := by decide +kernel
theorem dX11_paysOut_9 : decode cX11_paysOut 9 = .ok (.if_icmp .ge 45, 3) := by decide +kernel
theorem dX11_paysOut_12 : decode cX11_paysOut 12 = .ok (.aload_n 0, 1) := by decide +kernel
theorem dX11_paysOut_13 : decode cX11_paysOut 13 = .ok (.iload_n 3, 1) := by decide +kernel
theorem dX11_paysOut_14 : decode cX11_paysOut 14 = .ok (.invokevirtual 120, 3) := by decide +kernel
theorem dX11_paysOut_17 : decode cX11_paysOut 17 = .ok (.ifCond .eq 31, 3) := by decide +kernel
theorem dX11_paysOut_20 : decode cX11_paysOut 20 = .ok (.aload_n 0, 1) := by decide +kernel
theorem dX11_paysOut_21 : decode cX11_paysOut 21 = .ok (.getfield 18, 3) := by decide +kernel
theorem dX11_paysOut_24 : decode cX11_paysOut 24 = .ok (.iconst 0, 1) := by decide +kernel
theorem dX11_paysOut_25 : decode cX11_paysOut 25 = .ok (.iload_n 3, 1) := by decide +kernel
theorem dX11_paysOut_26 : decode cX11_paysOut 26 = .ok (.iadd, 1) := by decide +kernel
theorem dX11_paysOut_27 : decode cX11_paysOut 27 = .ok (.dup2, 1) := by decide +kernel
theorem dX11_paysOut_28 : decode cX11_paysOut 28 = .ok (.laload, 1) := by decide +kernel
theorem dX11_paysOut_29 : decode cX11_paysOut 29 = .ok (.aload_n 0, 1) := by decide +kernel
theorem dX11_paysOut_30 : decode cX11_paysOut 30 = .ok (.getfield 14, 3) := by decide +kernel
theorem dX11_paysOut_33 : decode cX11_paysOut 33 = .ok (.bipush 64, 2) := by decide +kernel
theorem dX11_paysOut_35 : decode cX11_paysOut 35 = .ok (.iconst 5, 1) := by decide +kernel
theorem dX11_paysOut_36 : decode cX11_paysOut 36 = .ok (.iload_n 3, 1) := by decide +kernel
theorem dX11_paysOut_37 : decode cX11_paysOut 37 = .ok (.imul, 1) := by decide +kernel
theorem dX11_paysOut_38 : decode cX11_paysOut 38 = .ok (.iadd, 1) := by decide +kernel
theorem dX11_paysOut_39 : decode cX11_paysOut 39 = .ok (.iload_n 1, 1) := by decide +kernel
theorem dX11_paysOut_40 : decode cX11_paysOut 40 = .ok (.iadd, 1) := by decide +kernel
theorem dX11_paysOut_41 : decode cX11_paysOut 41 = .ok (.iaload, 1) := by decide +kernel
theorem dX11_paysOut_42 : decode cX11_paysOut 42 = .ok (.i2l, 1) := by decide +kernel
theorem dX11_paysOut_43 : decode cX11_paysOut 43 = .ok (.iload_n 2, 1) := by decide +kernel
theorem dX11_paysOut_44 : decode cX11_paysOut 44 = .ok (.i2l, 1) := by decide +kernel
theorem dX11_paysOut_45 : decode cX11_paysOut 45 = .ok (.lmul, 1) := by decide +kernel
theorem dX11_paysOut_46 : decode cX11_paysOut 46 = .ok (.ladd, 1) := by decide +kernel
theorem dX11_paysOut_47 : decode cX11_paysOut 47 = .ok (.lastore, 1) := by decide +kernel
theorem dX11_paysOut_48 : decode cX11_paysOut 48 = .ok (.iinc 3 1, 3) := by decide +kernel
theorem dX11_paysOut_51 : decode cX11_paysOut 51 = .ok (.goto (-49), 3) := by decide +kernel
theorem dX11_paysOut_54 : decode cX11_paysOut 54 = .ok (.iconst 0, 1) := by decide +kernel
theorem dX11_paysOut_55 : decode cX11_paysOut 55 = .ok (.istore_n 3, 1) := by decide +kernel
theorem dX11_paysOut_56 : decode cX11_paysOut 56 = .ok (.iload_n 3, 1) := by decide +kernel
theorem dX11_paysOut_57 : decode cX11_paysOut 57 = .ok (.bipush 60, 2) := by decide +kernel
theorem dX11_paysOut_59 : decode cX11_paysOut 59 = .ok (.if_icmp .ge 93, 3) := by decide +kernel
theorem dX11_paysOut_62 : decode cX11_paysOut 62 = .ok (.aload_n 0, 1) := by decide +kernel
theorem dX11_paysOut_63 : decode cX11_paysOut 63 = .ok (.iload_n 3, 1) := by decide +kernel
theorem dX11_paysOut_64 : decode cX11_paysOut 64 = .ok (.invokevirtual 133, 3) := by decide +kernel
theorem dX11_paysOut_67 : decode cX11_paysOut 67 = .ok (.ifCond .eq 79, 3) := by decide +kernel
theorem dX11_paysOut_70 : decode cX11_paysOut 70 = .ok (.aload_n 0, 1) := by decide +kernel
theorem dX11_paysOut_71 : decode cX11_paysOut 71 = .ok (.iload_n 3, 1) := by decide +kernel
theorem dX11_paysOut_72 : decode cX11_paysOut 72 = .ok (.iconst 3, 1) := by decide +kernel
theorem dX11_paysOut_73 : decode cX11_paysOut 73 = .ok (.invokevirtual 123, 3) := by decide +kernel
theorem dX11_paysOut_76 : decode cX11_paysOut 76 = .ok (.iload_n 1, 1) := by decide +kernel
theorem dX11_paysOut_77 : decode cX11_paysOut 77 = .ok (.if_icmp .ne 69, 3) := by decide +kernel
theorem dX11_paysOut_80 : decode cX11_paysOut 80 = .ok (.aload_n 0, 1) := by decide +kernel
theorem dX11_paysOut_81 : decode cX11_paysOut 81 = .ok (.iload_n 3, 1) := by decide +kernel
theorem dX11_paysOut_82 : decode cX11_paysOut 82 = .ok (.bipush 6, 2) := by decide +kernel
theorem dX11_paysOut_84 : decode cX11_paysOut 84 = .ok (.invokevirtual 123, 3) := by decide +kernel
theorem dX11_paysOut_87 : decode cX11_paysOut 87 = .ok (.aload_n 0, 1) := by decide +kernel
theorem dX11_paysOut_88 : decode cX11_paysOut 88 = .ok (.getfield 14, 3) := by decide +kernel
theorem dX11_paysOut_91 : decode cX11_paysOut 91 = .ok (.iconst 0, 1) := by decide +kernel
theorem dX11_paysOut_92 : decode cX11_paysOut 92 = .ok (.iaload, 1) := by decide +kernel
theorem dX11_paysOut_93 : decode cX11_paysOut 93 = .ok (.if_icmp .ge 53, 3) := by decide +kernel
theorem dX11_paysOut_96 : decode cX11_paysOut 96 = .ok (.aload_n 0, 1) := by decide +kernel
theorem dX11_paysOut_97 : decode cX11_paysOut 97 = .ok (.iconst 5, 1) := by decide +kernel
theorem dX11_paysOut_98 : decode cX11_paysOut 98 = .ok (.bipush 100, 2) := by decide +kernel
theorem dX11_paysOut_100 : decode cX11_paysOut 100 = .ok (.iload_n 3, 1) := by decide +kernel
theorem dX11_paysOut_101 : decode cX11_paysOut 101 = .ok (.iadd, 1) := by decide +kernel
theorem dX11_paysOut_102 : decode cX11_paysOut 102 = .ok (.iconst 1, 1) := by decide +kernel
theorem dX11_paysOut_103 : decode cX11_paysOut 103 = .ok (.invokevirtual 159, 3) := by decide +kernel
theorem dX11_paysOut_106 : decode cX11_paysOut 106 = .ok (.ifCond .eq 40, 3) := by decide +kernel
theorem dX11_paysOut_109 : decode cX11_paysOut 109 = .ok (.aload_n 0, 1) := by decide +kernel
theorem dX11_paysOut_110 : decode cX11_paysOut 110 = .ok (.getfield 18, 3) := by decide +kernel
theorem dX11_paysOut_113 : decode cX11_paysOut 113 = .ok (.bipush 24, 2) := by decide +kernel
theorem dX11_paysOut_115 : decode cX11_paysOut 115 = .ok (.bipush 12, 2) := by decide +kernel
theorem dX11_paysOut_117 : decode cX11_paysOut 117 = .ok (.aload_n 0, 1) := by decide +kernel
theorem dX11_paysOut_118 : decode cX11_paysOut 118 = .ok (.iload_n 3, 1) := by decide +kernel
theorem dX11_paysOut_119 : decode cX11_paysOut 119 = .ok (.iconst 1, 1) := by decide +kernel
theorem dX11_paysOut_120 : decode cX11_paysOut 120 = .ok (.invokevirtual 123, 3) := by decide +kernel
theorem dX11_paysOut_123 : decode cX11_paysOut 123 = .ok (.imul, 1) := by decide +kernel
theorem dX11_paysOut_124 : decode cX11_paysOut 124 = .ok (.iadd, 1) := by decide +kernel
theorem dX11_paysOut_125 : decode cX11_paysOut 125 = .ok (.aload_n 0, 1) := by decide +kernel
theorem dX11_paysOut_126 : decode cX11_paysOut 126 = .ok (.iload_n 3, 1) := by decide +kernel
theorem dX11_paysOut_127 : decode cX11_paysOut 127 = .ok (.iconst 2, 1) := by decide +kernel
theorem dX11_paysOut_128 : decode cX11_paysOut 128 = .ok (.invokevirtual 123, 3) := by decide +kernel
theorem dX11_paysOut_131 : decode cX11_paysOut 131 = .ok (.iadd, 1) := by decide +kernel
theorem dX11_paysOut_132 : decode cX11_paysOut 132 = .ok (.dup2, 1) := by decide +kernel
theorem dX11_paysOut_133 : decode cX11_paysOut 133 = .ok (.laload, 1) := by decide +kernel
theorem dX11_paysOut_134 : decode cX11_paysOut 134 = .ok (.aload_n 0, 1) := by decide +kernel
theorem dX11_paysOut_135 : decode cX11_paysOut 135 = .ok (.iload_n 3, 1) := by decide +kernel
theorem dX11_paysOut_136 : decode cX11_paysOut 136 = .ok (.iconst 4, 1) := by decide +kernel
theorem dX11_paysOut_137 : decode cX11_paysOut 137 = .ok (.invokevirtual 123, 3) := by decide +kernel
theorem dX11_paysOut_140 : decode cX11_paysOut 140 = .ok (.i2l, 1) := by decide +kernel
theorem dX11_paysOut_141 : decode cX11_paysOut 141 = .ok (.iload_n 2, 1) := by decide +kernel
theorem dX11_paysOut_142 : decode cX11_paysOut 142 = .ok (.i2l, 1) := by decide +kernel
theorem dX11_paysOut_143 : decode cX11_paysOut 143 = .ok (.lmul, 1) := by decide +kernel
theorem dX11_paysOut_144 : decode cX11_paysOut 144 = .ok (.ladd, 1) := by decide +kernel
theorem dX11_paysOut_145 : decode cX11_paysOut 145 = .ok (.lastore, 1) := by decide +kernel
theorem dX11_paysOut_146 : decode cX11_paysOut 146 = .ok (.iinc 3 1, 3) := by decide +kernel
theorem dX11_paysOut_149 : decode cX11_paysOut 149 = .ok (.goto (-93), 3) := by decide +kernel
theorem dX11_paysOut_152 : decode cX11_paysOut 152 = .ok (.return_, 1) := by decide +kernel
theorem dX11_marksUp_0 : decode cX11_marksUp 0 = .ok (.iconst 0, 1) := by decide +kernel
theorem dX11_marksUp_1 : decode cX11_marksUp 1 = .ok (.istore_n 2, 1) := by decide +kernel
theorem dX11_marksUp_2 : decode cX11_marksUp 2 = .ok (.iload_n 2, 1) := by decide +kernel
theorem dX11_marksUp_3 : decode cX11_marksUp 3 = .ok (.aload_n 0, 1) := by decide +kernel
theorem dX11_marksUp_4 : decode cX11_marksUp 4 = .ok (.getfield 14, 3) := by decide +kernel
theorem dX11_marksUp_7 : decode cX11_marksUp 7 = .ok (.iconst 2, 1) := by decide +kernel
theorem dX11_marksUp_8 : decode cX11_marksUp 8 = .ok (.iaload, 1) := by decide +kernel
theorem dX11_marksUp_9 : decode cX11_marksUp 9 = .ok (.if_icmp .ge 117, 3) := by decide +kernel
theorem dX11_marksUp_12 : decode cX11_marksUp 12 = .ok (.iconst (-1), 1) := by decide +kernel
theorem dX11_marksUp_13 : decode cX11_marksUp 13 = .ok (.istore_n 3, 1) := by decide +kernel
theorem dX11_marksUp_14 : decode cX11_marksUp 14 = .ok (.iconst 0, 1) := by decide +kernel
theorem dX11_marksUp_15 : decode cX11_marksUp 15 = .ok (.istore 4, 2) := by decide +kernel
theorem dX11_marksUp_17 : decode cX11_marksUp 17 = .ok (.iload 4, 2) := by decide +kernel
theorem dX11_marksUp_19 : decode cX11_marksUp 19 = .ok (.bipush 60, 2) := by decide +kernel
theorem dX11_marksUp_21 : decode cX11_marksUp 21 = .ok (.if_icmp .ge 78, 3) := by decide +kernel
theorem dX11_marksUp_24 : decode cX11_marksUp 24 = .ok (.aload_n 0, 1) := by decide +kernel
theorem dX11_marksUp_25 : decode cX11_marksUp 25 = .ok (.iload 4, 2) := by decide +kernel
theorem dX11_marksUp_27 : decode cX11_marksUp 27 = .ok (.invokevirtual 133, 3) := by decide +kernel
theorem dX11_marksUp_30 : decode cX11_marksUp 30 = .ok (.ifCond .eq 63, 3) := by decide +kernel
theorem dX11_marksUp_33 : decode cX11_marksUp 33 = .ok (.aload_n 0, 1) := by decide +kernel
theorem dX11_marksUp_34 : decode cX11_marksUp 34 = .ok (.iload 4, 2) := by decide +kernel
theorem dX11_marksUp_36 : decode cX11_marksUp 36 = .ok (.iconst 3, 1) := by decide +kernel
theorem dX11_marksUp_37 : decode cX11_marksUp 37 = .ok (.invokevirtual 123, 3) := by decide +kernel
theorem dX11_marksUp_40 : decode cX11_marksUp 40 = .ok (.iload_n 2, 1) := by decide +kernel
theorem dX11_marksUp_41 : decode cX11_marksUp 41 = .ok (.if_icmp .ne 52, 3) := by decide +kernel
theorem dX11_marksUp_44 : decode cX11_marksUp 44 = .ok (.aload_n 0, 1) := by decide +kernel
theorem dX11_marksUp_45 : decode cX11_marksUp 45 = .ok (.iload 4, 2) := by decide +kernel
theorem dX11_marksUp_47 : decode cX11_marksUp 47 = .ok (.bipush 7, 2) := by decide +kernel
theorem dX11_marksUp_49 : decode cX11_marksUp 49 = .ok (.invokevirtual 123, 3) := by decide +kernel
theorem dX11_marksUp_52 : decode cX11_marksUp 52 = .ok (.iload_n 1, 1) := by decide +kernel
theorem dX11_marksUp_53 : decode cX11_marksUp 53 = .ok (.if_icmp .ne 40, 3) := by decide +kernel
theorem dX11_marksUp_56 : decode cX11_marksUp 56 = .ok (.aload_n 0, 1) := by decide +kernel
theorem dX11_marksUp_57 : decode cX11_marksUp 57 = .ok (.iload 4, 2) := by decide +kernel
theorem dX11_marksUp_59 : decode cX11_marksUp 59 = .ok (.bipush 11, 2) := by decide +kernel
theorem dX11_marksUp_61 : decode cX11_marksUp 61 = .ok (.invokevirtual 123, 3) := by decide +kernel
theorem dX11_marksUp_64 : decode cX11_marksUp 64 = .ok (.ifCond .ne 29, 3) := by decide +kernel
theorem dX11_marksUp_67 : decode cX11_marksUp 67 = .ok (.iload_n 3, 1) := by decide +kernel
theorem dX11_marksUp_68 : decode cX11_marksUp 68 = .ok (.iconst (-1), 1) := by decide +kernel
theorem dX11_marksUp_69 : decode cX11_marksUp 69 = .ok (.if_icmp .eq 21, 3) := by decide +kernel
theorem dX11_marksUp_72 : decode cX11_marksUp 72 = .ok (.aload_n 0, 1) := by decide +kernel
theorem dX11_marksUp_73 : decode cX11_marksUp 73 = .ok (.iload 4, 2) := by decide +kernel
theorem dX11_marksUp_75 : decode cX11_marksUp 75 = .ok (.bipush 6, 2) := by decide +kernel
theorem dX11_marksUp_77 : decode cX11_marksUp 77 = .ok (.invokevirtual 123, 3) := by decide +kernel
theorem dX11_marksUp_80 : decode cX11_marksUp 80 = .ok (.aload_n 0, 1) := by decide +kernel
theorem dX11_marksUp_81 : decode cX11_marksUp 81 = .ok (.iload_n 3, 1) := by decide +kernel
theorem dX11_marksUp_82 : decode cX11_marksUp 82 = .ok (.bipush 6, 2) := by decide +kernel
theorem dX11_marksUp_84 : decode cX11_marksUp 84 = .ok (.invokevirtual 123, 3) := by decide +kernel
theorem dX11_marksUp_87 : decode cX11_marksUp 87 = .ok (.if_icmp .lt 6, 3) := by decide +kernel
theorem dX11_marksUp_90 : decode cX11_marksUp 90 = .ok (.iload 4, 2) := by decide +kernel
theorem dX11_marksUp_92 : decode cX11_marksUp 92 = .ok (.istore_n 3, 1) := by decide +kernel
theorem dX11_marksUp_93 : decode cX11_marksUp 93 = .ok (.iinc 4 1, 3) := by decide +kernel
theorem dX11_marksUp_96 : decode cX11_marksUp 96 = .ok (.goto (-79), 3) := by decide +kernel
theorem dX11_marksUp_99 : decode cX11_marksUp 99 = .ok (.iload_n 3, 1) := by decide +kernel
theorem dX11_marksUp_100 : decode cX11_marksUp 100 = .ok (.iconst (-1), 1) := by decide +kernel
theorem dX11_marksUp_101 : decode cX11_marksUp 101 = .ok (.if_icmp .eq 19, 3) := by decide +kernel
theorem dX11_marksUp_104 : decode cX11_marksUp 104 = .ok (.aload_n 0, 1) := by decide +kernel
theorem dX11_marksUp_105 : decode cX11_marksUp 105 = .ok (.getfield 14, 3) := by decide +kernel
theorem dX11_marksUp_108 : decode cX11_marksUp 108 = .ok (.sipush 184, 3) := by decide +kernel
theorem dX11_marksUp_111 : decode cX11_marksUp 111 = .ok (.iload_n 2, 1) := by decide +kernel
theorem dX11_marksUp_112 : decode cX11_marksUp 112 = .ok (.iadd, 1) := by decide +kernel
theorem dX11_marksUp_113 : decode cX11_marksUp 113 = .ok (.aload_n 0, 1) := by decide +kernel
theorem dX11_marksUp_114 : decode cX11_marksUp 114 = .ok (.iload_n 3, 1) := by decide +kernel
theorem dX11_marksUp_115 : decode cX11_marksUp 115 = .ok (.iconst 5, 1) := by decide +kernel
theorem dX11_marksUp_116 : decode cX11_marksUp 116 = .ok (.invokevirtual 123, 3) := by decide +kernel
theorem dX11_marksUp_119 : decode cX11_marksUp 119 = .ok (.iastore, 1) := by decide +kernel
theorem dX11_marksUp_120 : decode cX11_marksUp 120 = .ok (.iinc 2 1, 3) := by decide +kernel
theorem dX11_marksUp_123 : decode cX11_marksUp 123 = .ok (.goto (-121), 3) := by decide +kernel
theorem dX11_marksUp_126 : decode cX11_marksUp 126 = .ok (.return_, 1) := by decide +kernel
theorem dX11_close_0 : decode cX11_close 0 = .ok (.aload_n 0, 1) := by decide +kernel
theorem dX11_close_1 : decode cX11_close 1 = .ok (.getfield 14, 3) := by decide +kernel
theorem dX11_close_4 : decode cX11_close 4 = .ok (.iconst 0, 1) := by decide +kernel
theorem dX11_close_5 : decode cX11_close 5 = .ok (.iaload, 1) := by decide +kernel
theorem dX11_close_6 : decode cX11_close 6 = .ok (.istore_n 1, 1) := by decide +kernel
theorem dX11_close_7 : decode cX11_close 7 = .ok (.iconst 0, 1) := by decide +kernel
theorem dX11_close_8 : decode cX11_close 8 = .ok (.istore_n 2, 1) := by decide +kernel
theorem dX11_close_9 : decode cX11_close 9 = .ok (.iload_n 2, 1) := by decide +kernel
theorem dX11_close_10 : decode cX11_close 10 = .ok (.bipush 60, 2) := by decide +kernel
theorem dX11_close_12 : decode cX11_close 12 = .ok (.if_icmp .ge 80, 3) := by decide +kernel
theorem dX11_close_15 : decode cX11_close 15 = .ok (.aload_n 0, 1) := by decide +kernel
theorem dX11_close_16 : decode cX11_close 16 = .ok (.iload_n 2, 1) := by decide +kernel
theorem dX11_close_17 : decode cX11_close 17 = .ok (.iconst 0, 1) := by decide +kernel
theorem dX11_close_18 : decode cX11_close 18 = .ok (.invokevirtual 123, 3) := by decide +kernel
theorem dX11_close_21 : decode cX11_close 21 = .ok (.ifCond .eq 65, 3) := by decide +kernel
theorem dX11_close_24 : decode cX11_close 24 = .ok (.aload_n 0, 1) := by decide +kernel
theorem dX11_close_25 : decode cX11_close 25 = .ok (.iload_n 2, 1) := by decide +kernel
theorem dX11_close_26 : decode cX11_close 26 = .ok (.bipush 8, 2) := by decide +kernel
theorem dX11_close_28 : decode cX11_close 28 = .ok (.invokevirtual 123, 3) := by decide +kernel
theorem dX11_close_31 : decode cX11_close 31 = .ok (.ifCond .ne 55, 3) := by decide +kernel
theorem dX11_close_34 : decode cX11_close 34 = .ok (.aload_n 0, 1) := by decide +kernel
theorem dX11_close_35 : decode cX11_close 35 = .ok (.iload_n 2, 1) := by decide +kernel
theorem dX11_close_36 : decode cX11_close 36 = .ok (.bipush 6, 2) := by decide +kernel
theorem dX11_close_38 : decode cX11_close 38 = .ok (.invokevirtual 123, 3) := by decide +kernel
theorem dX11_close_41 : decode cX11_close 41 = .ok (.iload_n 1, 1) := by decide +kernel
theorem dX11_close_42 : decode cX11_close 42 = .ok (.if_icmp .lt 6, 3) := by decide +kernel
theorem dX11_close_45 : decode cX11_close 45 = .ok (.goto 41, 3) := by decide +kernel
theorem dX11_close_48 : decode cX11_close 48 = .ok (.aload_n 0, 1) := by decide +kernel
theorem dX11_close_49 : decode cX11_close 49 = .ok (.iconst 4, 1) := by decide +kernel
theorem dX11_close_50 : decode cX11_close 50 = .ok (.bipush 100, 2) := by decide +kernel
theorem dX11_close_52 : decode cX11_close 52 = .ok (.iload_n 2, 1) := by decide +kernel
theorem dX11_close_53 : decode cX11_close 53 = .ok (.iadd, 1) := by decide +kernel
theorem dX11_close_54 : decode cX11_close 54 = .ok (.iconst 0, 1) := by decide +kernel
theorem dX11_close_55 : decode cX11_close 55 = .ok (.invokevirtual 159, 3) := by decide +kernel
theorem dX11_close_58 : decode cX11_close 58 = .ok (.ifCond .eq 11, 3) := by decide +kernel
theorem dX11_close_61 : decode cX11_close 61 = .ok (.aload_n 0, 1) := by decide +kernel
theorem dX11_close_62 : decode cX11_close 62 = .ok (.iload_n 2, 1) := by decide +kernel
theorem dX11_close_63 : decode cX11_close 63 = .ok (.invokevirtual 166, 3) := by decide +kernel
theorem dX11_close_66 : decode cX11_close 66 = .ok (.goto 20, 3) := by decide +kernel
theorem dX11_close_69 : decode cX11_close 69 = .ok (.aload_n 0, 1) := by decide +kernel
theorem dX11_close_70 : decode cX11_close 70 = .ok (.getfield 14, 3) := by decide +kernel
theorem dX11_close_73 : decode cX11_close 73 = .ok (.sipush 192, 3) := by decide +kernel
theorem dX11_close_76 : decode cX11_close 76 = .ok (.bipush 12, 2) := by decide +kernel
theorem dX11_close_78 : decode cX11_close 78 = .ok (.iload_n 2, 1) := by decide +kernel
theorem dX11_close_79 : decode cX11_close 79 = .ok (.imul, 1) := by decide +kernel
theorem dX11_close_80 : decode cX11_close 80 = .ok (.iadd, 1) := by decide +kernel
theorem dX11_close_81 : decode cX11_close 81 = .ok (.bipush 8, 2) := by decide +kernel
theorem dX11_close_83 : decode cX11_close 83 = .ok (.iadd, 1) := by decide +kernel
theorem dX11_close_84 : decode cX11_close 84 = .ok (.iconst 3, 1) := by decide +kernel
theorem dX11_close_85 : decode cX11_close 85 = .ok (.iastore, 1) := by decide +kernel
theorem dX11_close_86 : decode cX11_close 86 = .ok (.iinc 2 1, 3) := by decide +kernel
theorem dX11_close_89 : decode cX11_close 89 = .ok (.goto (-80), 3) := by decide +kernel
theorem dX11_close_92 : decode cX11_close 92 = .ok (.iconst 0, 1) := by decide +kernel
theorem dX11_close_93 : decode cX11_close 93 = .ok (.istore_n 2, 1) := by decide +kernel
theorem dX11_close_94 : decode cX11_close 94 = .ok (.iconst 0, 1) := by decide +kernel
theorem dX11_close_95 : decode cX11_close 95 = .ok (.istore_n 3, 1) := by decide +kernel
theorem dX11_close_96 : decode cX11_close 96 = .ok (.iload_n 3, 1) := by decide +kernel
theorem dX11_close_97 : decode cX11_close 97 = .ok (.aload_n 0, 1) := by decide +kernel
theorem dX11_close_98 : decode cX11_close 98 = .ok (.getfield 14, 3) := by decide +kernel
theorem dX11_close_101 : decode cX11_close 101 = .ok (.iconst 5, 1) := by decide +kernel
theorem dX11_close_102 : decode cX11_close 102 = .ok (.iaload, 1) := by decide +kernel
theorem dX11_close_103 : decode cX11_close 103 = .ok (.if_icmp .ge 97, 3) := by decide +kernel
theorem dX11_close_106 : decode cX11_close 106 = .ok (.sipush 1052, 3) := by decide +kernel
theorem dX11_close_109 : decode cX11_close 109 = .ok (.iconst 3, 1) := by decide +kernel
theorem dX11_close_110 : decode cX11_close 110 = .ok (.iload_n 3, 1) := by decide +kernel
theorem dX11_close_111 : decode cX11_close 111 = .ok (.imul, 1) := by decide +kernel
theorem dX11_close_112 : decode cX11_close 112 = .ok (.iadd, 1) := by decide +kernel
theorem dX11_close_113 : decode cX11_close 113 = .ok (.istore 4, 2) := by decide +kernel
theorem dX11_close_115 : decode cX11_close 115 = .ok (.aload_n 0, 1) := by decide +kernel
theorem dX11_close_116 : decode cX11_close 116 = .ok (.getfield 14, 3) := by decide +kernel
theorem dX11_close_119 : decode cX11_close 119 = .ok (.iload 4, 2) := by decide +kernel
theorem dX11_close_121 : decode cX11_close 121 = .ok (.iconst 1, 1) := by decide +kernel
theorem dX11_close_122 : decode cX11_close 122 = .ok (.iadd, 1) := by decide +kernel
theorem dX11_close_123 : decode cX11_close 123 = .ok (.iaload, 1) := by decide +kernel
theorem dX11_close_124 : decode cX11_close 124 = .ok (.iload_n 1, 1) := by decide +kernel
theorem dX11_close_125 : decode cX11_close 125 = .ok (.if_icmp .ne 26, 3) := by decide +kernel
theorem dX11_close_128 : decode cX11_close 128 = .ok (.aload_n 0, 1) := by decide +kernel
theorem dX11_close_129 : decode cX11_close 129 = .ok (.aload_n 0, 1) := by decide +kernel
theorem dX11_close_130 : decode cX11_close 130 = .ok (.getfield 14, 3) := by decide +kernel
theorem dX11_close_133 : decode cX11_close 133 = .ok (.iload 4, 2) := by decide +kernel
theorem dX11_close_135 : decode cX11_close 135 = .ok (.iaload, 1) := by decide +kernel
theorem dX11_close_136 : decode cX11_close 136 = .ok (.aload_n 0, 1) := by decide +kernel
theorem dX11_close_137 : decode cX11_close 137 = .ok (.getfield 14, 3) := by decide +kernel
theorem dX11_close_140 : decode cX11_close 140 = .ok (.iload 4, 2) := by decide +kernel
theorem dX11_close_142 : decode cX11_close 142 = .ok (.iconst 2, 1) := by decide +kernel
theorem dX11_close_143 : decode cX11_close 143 = .ok (.iadd, 1) := by decide +kernel
theorem dX11_close_144 : decode cX11_close 144 = .ok (.iaload, 1) := by decide +kernel
theorem dX11_close_145 : decode cX11_close 145 = .ok (.invokevirtual 379, 3) := by decide +kernel
theorem dX11_close_148 : decode cX11_close 148 = .ok (.goto 46, 3) := by decide +kernel
theorem dX11_close_151 : decode cX11_close 151 = .ok (.iconst 0, 1) := by decide +kernel
theorem dX11_close_152 : decode cX11_close 152 = .ok (.istore 5, 2) := by decide +kernel
theorem dX11_close_154 : decode cX11_close 154 = .ok (.iload 5, 2) := by decide +kernel
theorem dX11_close_156 : decode cX11_close 156 = .ok (.iconst 3, 1) := by decide +kernel
theorem dX11_close_157 : decode cX11_close 157 = .ok (.if_icmp .ge 34, 3) := by decide +kernel
theorem dX11_close_160 : decode cX11_close 160 = .ok (.aload_n 0, 1) := by decide +kernel
theorem dX11_close_161 : decode cX11_close 161 = .ok (.getfield 14, 3) := by decide +kernel
theorem dX11_close_164 : decode cX11_close 164 = .ok (.sipush 1052, 3) := by decide +kernel
theorem dX11_close_167 : decode cX11_close 167 = .ok (.iconst 3, 1) := by decide +kernel
theorem dX11_close_168 : decode cX11_close 168 = .ok (.iload_n 2, 1) := by decide +kernel
theorem dX11_close_169 : decode cX11_close 169 = .ok (.imul, 1) := by decide +kernel
theorem dX11_close_170 : decode cX11_close 170 = .ok (.iadd, 1) := by decide +kernel
theorem dX11_close_171 : decode cX11_close 171 = .ok (.iload 5, 2) := by decide +kernel
theorem dX11_close_173 : decode cX11_close 173 = .ok (.iadd, 1) := by decide +kernel
theorem dX11_close_174 : decode cX11_close 174 = .ok (.aload_n 0, 1) := by decide +kernel
theorem dX11_close_175 : decode cX11_close 175 = .ok (.getfield 14, 3) := by decide +kernel
theorem dX11_close_178 : decode cX11_close 178 = .ok (.iload 4, 2) := by decide +kernel
theorem dX11_close_180 : decode cX11_close 180 = .ok (.iload 5, 2) := by decide +kernel
theorem dX11_close_182 : decode cX11_close 182 = .ok (.iadd, 1) := by decide +kernel
theorem dX11_close_183 : decode cX11_close 183 = .ok (.iaload, 1) := by decide +kernel
theorem dX11_close_184 : decode cX11_close 184 = .ok (.iastore, 1) := by decide +kernel
theorem dX11_close_185 : decode cX11_close 185 = .ok (.iinc 5 1, 3) := by decide +kernel
theorem dX11_close_188 : decode cX11_close 188 = .ok (.goto (-34), 3) := by decide +kernel
theorem dX11_close_191 : decode cX11_close 191 = .ok (.iinc 2 1, 3) := by decide +kernel
theorem dX11_close_194 : decode cX11_close 194 = .ok (.iinc 3 1, 3) := by decide +kernel
theorem dX11_close_197 : decode cX11_close 197 = .ok (.goto (-101), 3) := by decide +kernel
theorem dX11_close_200 : decode cX11_close 200 = .ok (.aload_n 0, 1) := by decide +kernel
theorem dX11_close_201 : decode cX11_close 201 = .ok (.getfield 14, 3) := by decide +kernel
theorem dX11_close_204 : decode cX11_close 204 = .ok (.iconst 5, 1) := by decide +kernel
theorem dX11_close_205 : decode cX11_close 205 = .ok (.iload_n 2, 1) := by decide +kernel
theorem dX11_close_206 : decode cX11_close 206 = .ok (.iastore, 1) := by decide +kernel
theorem dX11_close_207 : decode cX11_close 207 = .ok (.iload_n 1, 1) := by decide +kernel
theorem dX11_close_208 : decode cX11_close 208 = .ok (.bipush 14, 2) := by decide +kernel
theorem dX11_close_210 : decode cX11_close 210 = .ok (.irem, 1) := by decide +kernel
theorem dX11_close_211 : decode cX11_close 211 = .ok (.bipush 9, 2) := by decide +kernel
theorem dX11_close_213 : decode cX11_close 213 = .ok (.if_icmp .ne 11, 3) := by decide +kernel
theorem dX11_close_216 : decode cX11_close 216 = .ok (.aload_n 0, 1) := by decide +kernel
theorem dX11_close_217 : decode cX11_close 217 = .ok (.iload_n 1, 1) := by decide +kernel
theorem dX11_close_218 : decode cX11_close 218 = .ok (.bipush 14, 2) := by decide +kernel
theorem dX11_close_220 : decode cX11_close 220 = .ok (.idiv, 1) := by decide +kernel
theorem dX11_close_221 : decode cX11_close 221 = .ok (.invokevirtual 382, 3) := by decide +kernel
theorem dX11_close_224 : decode cX11_close 224 = .ok (.iload_n 1, 1) := by decide +kernel
theorem dX11_close_225 : decode cX11_close 225 = .ok (.bipush 14, 2) := by decide +kernel
theorem dX11_close_227 : decode cX11_close 227 = .ok (.irem, 1) := by decide +kernel
theorem dX11_close_228 : decode cX11_close 228 = .ok (.bipush 11, 2) := by decide +kernel
theorem dX11_close_230 : decode cX11_close 230 = .ok (.if_icmp .ne 54, 3) := by decide +kernel
theorem dX11_close_233 : decode cX11_close 233 = .ok (.aload_n 0, 1) := by decide +kernel
theorem dX11_close_234 : decode cX11_close 234 = .ok (.getfield 14, 3) := by decide +kernel
theorem dX11_close_237 : decode cX11_close 237 = .ok (.bipush 6, 2) := by decide +kernel
theorem dX11_close_239 : decode cX11_close 239 = .ok (.iconst 0, 1) := by decide +kernel
theorem dX11_close_240 : decode cX11_close 240 = .ok (.iastore, 1) := by decide +kernel
theorem dX11_close_241 : decode cX11_close 241 = .ok (.aload_n 0, 1) := by decide +kernel
theorem dX11_close_242 : decode cX11_close 242 = .ok (.getfield 14, 3) := by decide +kernel
theorem dX11_close_245 : decode cX11_close 245 = .ok (.bipush 7, 2) := by decide +kernel
theorem dX11_close_247 : decode cX11_close 247 = .ok (.iconst 0, 1) := by decide +kernel
theorem dX11_close_248 : decode cX11_close 248 = .ok (.iastore, 1) := by decide +kernel
theorem dX11_close_249 : decode cX11_close 249 = .ok (.aload_n 0, 1) := by decide +kernel
theorem dX11_close_250 : decode cX11_close 250 = .ok (.getfield 14, 3) := by decide +kernel
theorem dX11_close_253 : decode cX11_close 253 = .ok (.bipush 8, 2) := by decide +kernel
theorem dX11_close_255 : decode cX11_close 255 = .ok (.iconst 1, 1) := by decide +kernel
theorem dX11_close_256 : decode cX11_close 256 = .ok (.iastore, 1) := by decide +kernel
theorem dX11_close_257 : decode cX11_close 257 = .ok (.iconst 0, 1) := by decide +kernel
theorem dX11_close_258 : decode cX11_close 258 = .ok (.istore_n 3, 1) := by decide +kernel
theorem dX11_close_259 : decode cX11_close 259 = .ok (.iload_n 3, 1) := by decide +kernel
theorem dX11_close_260 : decode cX11_close 260 = .ok (.aload_n 0, 1) := by decide +kernel
theorem dX11_close_261 : decode cX11_close 261 = .ok (.getfield 14, 3) := by decide +kernel
theorem dX11_close_264 : decode cX11_close 264 = .ok (.iconst 2, 1) := by decide +kernel
theorem dX11_close_265 : decode cX11_close 265 = .ok (.iaload, 1) := by decide +kernel
theorem dX11_close_266 : decode cX11_close 266 = .ok (.if_icmp .ge 18, 3) := by decide +kernel
theorem dX11_close_269 : decode cX11_close 269 = .ok (.aload_n 0, 1) := by decide +kernel
theorem dX11_close_270 : decode cX11_close 270 = .ok (.iload_n 3, 1) := by decide +kernel
theorem dX11_close_271 : decode cX11_close 271 = .ok (.iload_n 1, 1) := by decide +kernel
theorem dX11_close_272 : decode cX11_close 272 = .ok (.bipush 14, 2) := by decide +kernel
theorem dX11_close_274 : decode cX11_close 274 = .ok (.idiv, 1) := by decide +kernel
theorem dX11_close_275 : decode cX11_close 275 = .ok (.invokevirtual 385, 3) := by decide +kernel
theorem dX11_close_278 : decode cX11_close 278 = .ok (.iinc 3 1, 3) := by decide +kernel
theorem dX11_close_281 : decode cX11_close 281 = .ok (.goto (-22), 3) := by decide +kernel
theorem dX11_close_284 : decode cX11_close 284 = .ok (.iload_n 1, 1) := by decide +kernel
theorem dX11_close_285 : decode cX11_close 285 = .ok (.bipush 14, 2) := by decide +kernel
theorem dX11_close_287 : decode cX11_close 287 = .ok (.irem, 1) := by decide +kernel
theorem dX11_close_288 : decode cX11_close 288 = .ok (.bipush 12, 2) := by decide +kernel
theorem dX11_close_290 : decode cX11_close 290 = .ok (.if_icmp .ne 11, 3) := by decide +kernel
theorem dX11_close_293 : decode cX11_close 293 = .ok (.aload_n 0, 1) := by decide +kernel
theorem dX11_close_294 : decode cX11_close 294 = .ok (.iload_n 1, 1) := by decide +kernel
theorem dX11_close_295 : decode cX11_close 295 = .ok (.bipush 14, 2) := by decide +kernel
theorem dX11_close_297 : decode cX11_close 297 = .ok (.idiv, 1) := by decide +kernel
theorem dX11_close_298 : decode cX11_close 298 = .ok (.invokevirtual 388, 3) := by decide +kernel
theorem dX11_close_301 : decode cX11_close 301 = .ok (.iconst 0, 1) := by decide +kernel
theorem dX11_close_302 : decode cX11_close 302 = .ok (.istore_n 3, 1) := by decide +kernel
theorem dX11_close_303 : decode cX11_close 303 = .ok (.iload_n 3, 1) := by decide +kernel
theorem dX11_close_304 : decode cX11_close 304 = .ok (.aload_n 0, 1) := by decide +kernel
theorem dX11_close_305 : decode cX11_close 305 = .ok (.getfield 14, 3) := by decide +kernel
theorem dX11_close_308 : decode cX11_close 308 = .ok (.iconst 3, 1) := by decide +kernel
theorem dX11_close_309 : decode cX11_close 309 = .ok (.iaload, 1) := by decide +kernel
theorem dX11_close_310 : decode cX11_close 310 = .ok (.if_icmp .ge 46, 3) := by decide +kernel
theorem dX11_close_313 : decode cX11_close 313 = .ok (.aload_n 0, 1) := by decide +kernel
theorem dX11_close_314 : decode cX11_close 314 = .ok (.iload_n 3, 1) := by decide +kernel
theorem dX11_close_315 : decode cX11_close 315 = .ok (.bipush 6, 2) := by decide +kernel
theorem dX11_close_317 : decode cX11_close 317 = .ok (.invokevirtual 170, 3) := by decide +kernel
theorem dX11_close_320 : decode cX11_close 320 = .ok (.ifCond .ne 30, 3) := by decide +kernel
theorem dX11_close_323 : decode cX11_close 323 = .ok (.aload_n 0, 1) := by decide +kernel
theorem dX11_close_324 : decode cX11_close 324 = .ok (.iload_n 3, 1) := by decide +kernel
theorem dX11_close_325 : decode cX11_close 325 = .ok (.iconst 5, 1) := by decide +kernel
theorem dX11_close_326 : decode cX11_close 326 = .ok (.invokevirtual 170, 3) := by decide +kernel
theorem dX11_close_329 : decode cX11_close 329 = .ok (.iload_n 1, 1) := by decide +kernel
theorem dX11_close_330 : decode cX11_close 330 = .ok (.if_icmp .ne 20, 3) := by decide +kernel
theorem dX11_close_333 : decode cX11_close 333 = .ok (.aload_n 0, 1) := by decide +kernel
theorem dX11_close_334 : decode cX11_close 334 = .ok (.getfield 14, 3) := by decide +kernel
theorem dX11_close_337 : decode cX11_close 337 = .ok (.sipush 912, 3) := by decide +kernel
theorem dX11_close_340 : decode cX11_close 340 = .ok (.bipush 7, 2) := by decide +kernel
theorem dX11_close_342 : decode cX11_close 342 = .ok (.iload_n 3, 1) := by decide +kernel
theorem dX11_close_343 : decode cX11_close 343 = .ok (.imul, 1) := by decide +kernel
theorem dX11_close_344 : decode cX11_close 344 = .ok (.iadd, 1) := by decide +kernel
theorem dX11_close_345 : decode cX11_close 345 = .ok (.bipush 6, 2) := by decide +kernel
theorem dX11_close_347 : decode cX11_close 347 = .ok (.iadd, 1) := by decide +kernel
theorem dX11_close_348 : decode cX11_close 348 = .ok (.iconst 2, 1) := by decide +kernel
theorem dX11_close_349 : decode cX11_close 349 = .ok (.iastore, 1) := by decide +kernel
theorem dX11_close_350 : decode cX11_close 350 = .ok (.iinc 3 1, 3) := by decide +kernel
theorem dX11_close_353 : decode cX11_close 353 = .ok (.goto (-50), 3) := by decide +kernel
theorem dX11_close_356 : decode cX11_close 356 = .ok (.aload_n 0, 1) := by decide +kernel
theorem dX11_close_357 : decode cX11_close 357 = .ok (.getfield 14, 3) := by decide +kernel
theorem dX11_close_360 : decode cX11_close 360 = .ok (.iconst 0, 1) := by decide +kernel
theorem dX11_close_361 : decode cX11_close 361 = .ok (.dup2, 1) := by decide +kernel
theorem dX11_close_362 : decode cX11_close 362 = .ok (.iaload, 1) := by decide +kernel
theorem dX11_close_363 : decode cX11_close 363 = .ok (.iconst 1, 1) := by decide +kernel
theorem dX11_close_364 : decode cX11_close 364 = .ok (.iadd, 1) := by decide +kernel
theorem dX11_close_365 : decode cX11_close 365 = .ok (.iastore, 1) := by decide +kernel
theorem dX11_close_366 : decode cX11_close 366 = .ok (.return_, 1) := by decide +kernel
theorem dX11_run_0 : decode cX11_run 0 = .ok (.iload_n 1, 1) := by decide +kernel
theorem dX11_run_1 : decode cX11_run 1 = .ok (.ifCond .ge 10, 3) := by decide +kernel
theorem dX11_run_4 : decode cX11_run 4 = .ok (.aload_n 0, 1) := by decide +kernel
theorem dX11_run_5 : decode cX11_run 5 = .ok (.bipush (-4), 2) := by decide +kernel
theorem dX11_run_7 : decode cX11_run 7 = .ok (.invokevirtual 108, 3) := by decide +kernel
theorem dX11_run_10 : decode cX11_run 10 = .ok (.ireturn, 1) := by decide +kernel
theorem dX11_run_11 : decode cX11_run 11 = .ok (.iload_n 1, 1) := by decide +kernel
theorem dX11_run_12 : decode cX11_run 12 = .ok (.iconst 1, 1) := by decide +kernel
theorem dX11_run_13 : decode cX11_run 13 = .ok (.bipush 28, 2) := by decide +kernel
theorem dX11_run_15 : decode cX11_run 15 = .ok (.invokestatic 104, 3) := by decide +kernel
theorem dX11_run_18 : decode cX11_run 18 = .ok (.ifCond .ne 10, 3) := by decide +kernel
theorem dX11_run_21 : decode cX11_run 21 = .ok (.aload_n 0, 1) := by decide +kernel
theorem dX11_run_22 : decode cX11_run 22 = .ok (.bipush (-7), 2) := by decide +kernel
theorem dX11_run_24 : decode cX11_run 24 = .ok (.invokevirtual 108, 3) := by decide +kernel
theorem dX11_run_27 : decode cX11_run 27 = .ok (.ireturn, 1) := by decide +kernel
theorem dX11_run_28 : decode cX11_run 28 = .ok (.aload_n 0, 1) := by decide +kernel
theorem dX11_run_29 : decode cX11_run 29 = .ok (.getfield 14, 3) := by decide +kernel
theorem dX11_run_32 : decode cX11_run 32 = .ok (.iconst 0, 1) := by decide +kernel
theorem dX11_run_33 : decode cX11_run 33 = .ok (.iaload, 1) := by decide +kernel
theorem dX11_run_34 : decode cX11_run 34 = .ok (.iload_n 1, 1) := by decide +kernel
theorem dX11_run_35 : decode cX11_run 35 = .ok (.iadd, 1) := by decide +kernel
theorem dX11_run_36 : decode cX11_run 36 = .ok (.sipush 700, 3) := by decide +kernel
theorem dX11_run_39 : decode cX11_run 39 = .ok (.if_icmp .le 10, 3) := by decide +kernel
theorem dX11_run_42 : decode cX11_run 42 = .ok (.aload_n 0, 1) := by decide +kernel
theorem dX11_run_43 : decode cX11_run 43 = .ok (.bipush (-8), 2) := by decide +kernel
theorem dX11_run_45 : decode cX11_run 45 = .ok (.invokevirtual 108, 3) := by decide +kernel
theorem dX11_run_48 : decode cX11_run 48 = .ok (.ireturn, 1) := by decide +kernel
theorem dX11_run_49 : decode cX11_run 49 = .ok (.aload_n 0, 1) := by decide +kernel
theorem dX11_run_50 : decode cX11_run 50 = .ok (.invokevirtual 235, 3) := by decide +kernel
theorem dX11_run_53 : decode cX11_run 53 = .ok (.istore_n 2, 1) := by decide +kernel
theorem dX11_run_54 : decode cX11_run 54 = .ok (.iconst 0, 1) := by decide +kernel
theorem dX11_run_55 : decode cX11_run 55 = .ok (.istore_n 3, 1) := by decide +kernel
theorem dX11_run_56 : decode cX11_run 56 = .ok (.iload_n 3, 1) := by decide +kernel
theorem dX11_run_57 : decode cX11_run 57 = .ok (.iload_n 1, 1) := by decide +kernel
theorem dX11_run_58 : decode cX11_run 58 = .ok (.if_icmp .ge 13, 3) := by decide +kernel
theorem dX11_run_61 : decode cX11_run 61 = .ok (.aload_n 0, 1) := by decide +kernel
theorem dX11_run_62 : decode cX11_run 62 = .ok (.invokevirtual 391, 3) := by decide +kernel
theorem dX11_run_65 : decode cX11_run 65 = .ok (.iinc 3 1, 3) := by decide +kernel
theorem dX11_run_68 : decode cX11_run 68 = .ok (.goto (-12), 3) := by decide +kernel
theorem dX11_run_71 : decode cX11_run 71 = .ok (.iload_n 2, 1) := by decide +kernel
theorem dX11_run_72 : decode cX11_run 72 = .ok (.aload_n 0, 1) := by decide +kernel
theorem dX11_run_73 : decode cX11_run 73 = .ok (.invokevirtual 235, 3) := by decide +kernel
theorem dX11_run_76 : decode cX11_run 76 = .ok (.isub, 1) := by decide +kernel
theorem dX11_run_77 : decode cX11_run 77 = .ok (.ireturn, 1) := by decide +kernel
theorem dX11_pass_0 : decode cX11_pass 0 = .ok (.aload_n 0, 1) := by decide +kernel
theorem dX11_pass_1 : decode cX11_pass 1 = .ok (.getfield 14, 3) := by decide +kernel
theorem dX11_pass_4 : decode cX11_pass 4 = .ok (.bipush 8, 2) := by decide +kernel
theorem dX11_pass_6 : decode cX11_pass 6 = .ok (.iaload, 1) := by decide +kernel
theorem dX11_pass_7 : decode cX11_pass 7 = .ok (.ifCond .ne 10, 3) := by decide +kernel
theorem dX11_pass_10 : decode cX11_pass 10 = .ok (.aload_n 0, 1) := by decide +kernel
theorem dX11_pass_11 : decode cX11_pass 11 = .ok (.bipush (-2), 2) := by decide +kernel
theorem dX11_pass_13 : decode cX11_pass 13 = .ok (.invokevirtual 108, 3) := by decide +kernel
theorem dX11_pass_16 : decode cX11_pass 16 = .ok (.ireturn, 1) := by decide +kernel
theorem dX11_pass_17 : decode cX11_pass 17 = .ok (.iload_n 1, 1) := by decide +kernel
theorem dX11_pass_18 : decode cX11_pass 18 = .ok (.ifCond .lt 21, 3) := by decide +kernel
theorem dX11_pass_21 : decode cX11_pass 21 = .ok (.iload_n 1, 1) := by decide +kernel
theorem dX11_pass_22 : decode cX11_pass 22 = .ok (.aload_n 0, 1) := by decide +kernel
theorem dX11_pass_23 : decode cX11_pass 23 = .ok (.getfield 14, 3) := by decide +kernel
theorem dX11_pass_26 : decode cX11_pass 26 = .ok (.bipush 6, 2) := by decide +kernel
theorem dX11_pass_28 : decode cX11_pass 28 = .ok (.iaload, 1) := by decide +kernel
theorem dX11_pass_29 : decode cX11_pass 29 = .ok (.if_icmp .ge 10, 3) := by decide +kernel
theorem dX11_pass_32 : decode cX11_pass 32 = .ok (.iload_n 1, 1) := by decide +kernel
theorem dX11_pass_33 : decode cX11_pass 33 = .ok (.sipush 300, 3) := by decide +kernel
theorem dX11_pass_36 : decode cX11_pass 36 = .ok (.if_icmp .lt 10, 3) := by decide +kernel
theorem dX11_pass_39 : decode cX11_pass 39 = .ok (.aload_n 0, 1) := by decide +kernel
theorem dX11_pass_40 : decode cX11_pass 40 = .ok (.bipush (-3), 2) := by decide +kernel
theorem dX11_pass_42 : decode cX11_pass 42 = .ok (.invokevirtual 108, 3) := by decide +kernel
theorem dX11_pass_45 : decode cX11_pass 45 = .ok (.ireturn, 1) := by decide +kernel
theorem dX11_pass_46 : decode cX11_pass 46 = .ok (.iload_n 2, 1) := by decide +kernel
theorem dX11_pass_47 : decode cX11_pass 47 = .ok (.iconst 0, 1) := by decide +kernel
theorem dX11_pass_48 : decode cX11_pass 48 = .ok (.bipush 6, 2) := by decide +kernel
theorem dX11_pass_50 : decode cX11_pass 50 = .ok (.invokestatic 104, 3) := by decide +kernel
theorem dX11_pass_53 : decode cX11_pass 53 = .ok (.ifCond .eq 21, 3) := by decide +kernel
theorem dX11_pass_56 : decode cX11_pass 56 = .ok (.aload_n 0, 1) := by decide +kernel
theorem dX11_pass_57 : decode cX11_pass 57 = .ok (.getfield 14, 3) := by decide +kernel
theorem dX11_pass_60 : decode cX11_pass 60 = .ok (.sipush 2570, 3) := by decide +kernel
theorem dX11_pass_63 : decode cX11_pass 63 = .ok (.bipush 7, 2) := by decide +kernel
theorem dX11_pass_65 : decode cX11_pass 65 = .ok (.iload_n 1, 1) := by decide +kernel
theorem dX11_pass_66 : decode cX11_pass 66 = .ok (.imul, 1) := by decide +kernel
theorem dX11_pass_67 : decode cX11_pass 67 = .ok (.iadd, 1) := by decide +kernel
theorem dX11_pass_68 : decode cX11_pass 68 = .ok (.iload_n 2, 1) := by decide +kernel
theorem dX11_pass_69 : decode cX11_pass 69 = .ok (.iadd, 1) := by decide +kernel
theorem dX11_pass_70 : decode cX11_pass 70 = .ok (.iaload, 1) := by decide +kernel
theorem dX11_pass_71 : decode cX11_pass 71 = .ok (.goto 9, 3) := by decide +kernel
theorem dX11_pass_74 : decode cX11_pass 74 = .ok (.aload_n 0, 1) := by decide +kernel
theorem dX11_pass_75 : decode cX11_pass 75 = .ok (.bipush (-7), 2) := by decide +kernel
theorem dX11_pass_77 : decode cX11_pass 77 = .ok (.invokevirtual 108, 3) := by decide +kernel
theorem dX11_pass_80 : decode cX11_pass 80 = .ok (.ireturn, 1) := by decide +kernel
theorem dX11_delivery_0 : decode cX11_delivery 0 = .ok (.aload_n 0, 1) := by decide +kernel
theorem dX11_delivery_1 : decode cX11_delivery 1 = .ok (.getfield 14, 3) := by decide +kernel
theorem dX11_delivery_4 : decode cX11_delivery 4 = .ok (.bipush 8, 2) := by decide +kernel
theorem dX11_delivery_6 : decode cX11_delivery 6 = .ok (.iaload, 1) := by decide +kernel
theorem dX11_delivery_7 : decode cX11_delivery 7 = .ok (.ifCond .ne 10, 3) := by decide +kernel
theorem dX11_delivery_10 : decode cX11_delivery 10 = .ok (.aload_n 0, 1) := by decide +kernel
theorem dX11_delivery_11 : decode cX11_delivery 11 = .ok (.bipush (-2), 2) := by decide +kernel
theorem dX11_delivery_13 : decode cX11_delivery 13 = .ok (.invokevirtual 108, 3) := by decide +kernel
theorem dX11_delivery_16 : decode cX11_delivery 16 = .ok (.ireturn, 1) := by decide +kernel
theorem dX11_delivery_17 : decode cX11_delivery 17 = .ok (.iload_n 1, 1) := by decide +kernel
theorem dX11_delivery_18 : decode cX11_delivery 18 = .ok (.ifCond .lt 21, 3) := by decide +kernel
theorem dX11_delivery_21 : decode cX11_delivery 21 = .ok (.iload_n 1, 1) := by decide +kernel
theorem dX11_delivery_22 : decode cX11_delivery 22 = .ok (.aload_n 0, 1) := by decide +kernel
theorem dX11_delivery_23 : decode cX11_delivery 23 = .ok (.getfield 14, 3) := by decide +kernel
theorem dX11_delivery_26 : decode cX11_delivery 26 = .ok (.bipush 7, 2) := by decide +kernel
theorem dX11_delivery_28 : decode cX11_delivery 28 = .ok (.iaload, 1) := by decide +kernel
theorem dX11_delivery_29 : decode cX11_delivery 29 = .ok (.if_icmp .ge 10, 3) := by decide +kernel
theorem dX11_delivery_32 : decode cX11_delivery 32 = .ok (.iload_n 1, 1) := by decide +kernel
theorem dX11_delivery_33 : decode cX11_delivery 33 = .ok (.sipush 200, 3) := by decide +kernel
theorem dX11_delivery_36 : decode cX11_delivery 36 = .ok (.if_icmp .lt 10, 3) := by decide +kernel
theorem dX11_delivery_39 : decode cX11_delivery 39 = .ok (.aload_n 0, 1) := by decide +kernel
theorem dX11_delivery_40 : decode cX11_delivery 40 = .ok (.bipush (-3), 2) := by decide +kernel
theorem dX11_delivery_42 : decode cX11_delivery 42 = .ok (.invokevirtual 108, 3) := by decide +kernel
theorem dX11_delivery_45 : decode cX11_delivery 45 = .ok (.ireturn, 1) := by decide +kernel
theorem dX11_delivery_46 : decode cX11_delivery 46 = .ok (.iload_n 2, 1) := by decide +kernel
theorem dX11_delivery_47 : decode cX11_delivery 47 = .ok (.iconst 0, 1) := by decide +kernel
theorem dX11_delivery_48 : decode cX11_delivery 48 = .ok (.iconst 5, 1) := by decide +kernel
theorem dX11_delivery_49 : decode cX11_delivery 49 = .ok (.invokestatic 104, 3) := by decide +kernel
theorem dX11_delivery_52 : decode cX11_delivery 52 = .ok (.ifCond .eq 21, 3) := by decide +kernel
theorem dX11_delivery_55 : decode cX11_delivery 55 = .ok (.aload_n 0, 1) := by decide +kernel
theorem dX11_delivery_56 : decode cX11_delivery 56 = .ok (.getfield 14, 3) := by decide +kernel
theorem dX11_delivery_59 : decode cX11_delivery 59 = .ok (.sipush 4670, 3) := by decide +kernel
theorem dX11_delivery_62 : decode cX11_delivery 62 = .ok (.bipush 6, 2) := by decide +kernel
theorem dX11_delivery_64 : decode cX11_delivery 64 = .ok (.iload_n 1, 1) := by decide +kernel
theorem dX11_delivery_65 : decode cX11_delivery 65 = .ok (.imul, 1) := by decide +kernel
theorem dX11_delivery_66 : decode cX11_delivery 66 = .ok (.iadd, 1) := by decide +kernel
theorem dX11_delivery_67 : decode cX11_delivery 67 = .ok (.iload_n 2, 1) := by decide +kernel
theorem dX11_delivery_68 : decode cX11_delivery 68 = .ok (.iadd, 1) := by decide +kernel
theorem dX11_delivery_69 : decode cX11_delivery 69 = .ok (.iaload, 1) := by decide +kernel
theorem dX11_delivery_70 : decode cX11_delivery 70 = .ok (.goto 9, 3) := by decide +kernel
theorem dX11_delivery_73 : decode cX11_delivery 73 = .ok (.aload_n 0, 1) := by decide +kernel
theorem dX11_delivery_74 : decode cX11_delivery 74 = .ok (.bipush (-7), 2) := by decide +kernel
theorem dX11_delivery_76 : decode cX11_delivery 76 = .ok (.invokevirtual 108, 3) := by decide +kernel
theorem dX11_delivery_79 : decode cX11_delivery 79 = .ok (.ireturn, 1) := by decide +kernel
theorem dX11_settled_0 : decode cX11_settled 0 = .ok (.aload_n 0, 1) := by decide +kernel
theorem dX11_settled_1 : decode cX11_settled 1 = .ok (.getfield 14, 3) := by decide +kernel
theorem dX11_settled_4 : decode cX11_settled 4 = .ok (.bipush 9, 2) := by decide +kernel
theorem dX11_settled_6 : decode cX11_settled 6 = .ok (.iaload, 1) := by decide +kernel
theorem dX11_settled_7 : decode cX11_settled 7 = .ok (.ifCond .ne 11, 3) := by decide +kernel
theorem dX11_settled_10 : decode cX11_settled 10 = .ok (.aload_n 0, 1) := by decide +kernel
theorem dX11_settled_11 : decode cX11_settled 11 = .ok (.bipush (-2), 2) := by decide +kernel
theorem dX11_settled_13 : decode cX11_settled 13 = .ok (.invokevirtual 130, 3) := by decide +kernel
theorem dX11_settled_16 : decode cX11_settled 16 = .ok (.i2l, 1) := by decide +kernel
theorem dX11_settled_17 : decode cX11_settled 17 = .ok (.lreturn, 1) := by decide +kernel
theorem dX11_settled_18 : decode cX11_settled 18 = .ok (.aload_n 0, 1) := by decide +kernel
theorem dX11_settled_19 : decode cX11_settled 19 = .ok (.iload_n 1, 1) := by decide +kernel
theorem dX11_settled_20 : decode cX11_settled 20 = .ok (.invokevirtual 113, 3) := by decide +kernel
theorem dX11_settled_23 : decode cX11_settled 23 = .ok (.ifCond .ne 11, 3) := by decide +kernel
theorem dX11_settled_26 : decode cX11_settled 26 = .ok (.aload_n 0, 1) := by decide +kernel
theorem dX11_settled_27 : decode cX11_settled 27 = .ok (.bipush (-3), 2) := by decide +kernel
theorem dX11_settled_29 : decode cX11_settled 29 = .ok (.invokevirtual 130, 3) := by decide +kernel
theorem dX11_settled_32 : decode cX11_settled 32 = .ok (.i2l, 1) := by decide +kernel
theorem dX11_settled_33 : decode cX11_settled 33 = .ok (.lreturn, 1) := by decide +kernel
theorem dX11_settled_34 : decode cX11_settled 34 = .ok (.iload_n 2, 1) := by decide +kernel
theorem dX11_settled_35 : decode cX11_settled 35 = .ok (.iconst 0, 1) := by decide +kernel
theorem dX11_settled_36 : decode cX11_settled 36 = .ok (.iconst 4, 1) := by decide +kernel
theorem dX11_settled_37 : decode cX11_settled 37 = .ok (.invokestatic 104, 3) := by decide +kernel
theorem dX11_settled_40 : decode cX11_settled 40 = .ok (.ifCond .ne 11, 3) := by decide +kernel
theorem dX11_settled_43 : decode cX11_settled 43 = .ok (.aload_n 0, 1) := by decide +kernel
theorem dX11_settled_44 : decode cX11_settled 44 = .ok (.bipush (-7), 2) := by decide +kernel
theorem dX11_settled_46 : decode cX11_settled 46 = .ok (.invokevirtual 130, 3) := by decide +kernel
theorem dX11_settled_49 : decode cX11_settled 49 = .ok (.i2l, 1) := by decide +kernel
theorem dX11_settled_50 : decode cX11_settled 50 = .ok (.lreturn, 1) := by decide +kernel
theorem dX11_settled_51 : decode cX11_settled 51 = .ok (.iload_n 2, 1) := by decide +kernel
theorem dX11_settled_52 : decode cX11_settled 52 = .ok (.iconst 4, 1) := by decide +kernel
theorem dX11_settled_53 : decode cX11_settled 53 = .ok (.if_icmp .ne 20, 3) := by decide +kernel
theorem dX11_settled_56 : decode cX11_settled 56 = .ok (.aload_n 0, 1) := by decide +kernel
theorem dX11_settled_57 : decode cX11_settled 57 = .ok (.getfield 14, 3) := by decide +kernel
theorem dX11_settled_60 : decode cX11_settled 60 = .ok (.bipush 16, 2) := by decide +kernel
theorem dX11_settled_62 : decode cX11_settled 62 = .ok (.iconst 4, 1) := by decide +kernel
theorem dX11_settled_63 : decode cX11_settled 63 = .ok (.iload_n 1, 1) := by decide +kernel
theorem dX11_settled_64 : decode cX11_settled 64 = .ok (.imul, 1) := by decide +kernel
theorem dX11_settled_65 : decode cX11_settled 65 = .ok (.iadd, 1) := by decide +kernel
theorem dX11_settled_66 : decode cX11_settled 66 = .ok (.iconst 3, 1) := by decide +kernel
theorem dX11_settled_67 : decode cX11_settled 67 = .ok (.iadd, 1) := by decide +kernel
theorem dX11_settled_68 : decode cX11_settled 68 = .ok (.iaload, 1) := by decide +kernel
theorem dX11_settled_69 : decode cX11_settled 69 = .ok (.i2l, 1) := by decide +kernel
theorem dX11_settled_70 : decode cX11_settled 70 = .ok (.goto 17, 3) := by decide +kernel
theorem dX11_settled_73 : decode cX11_settled 73 = .ok (.aload_n 0, 1) := by decide +kernel
theorem dX11_settled_74 : decode cX11_settled 74 = .ok (.getfield 18, 3) := by decide +kernel
theorem dX11_settled_77 : decode cX11_settled 77 = .ok (.sipush 168, 3) := by decide +kernel
theorem dX11_settled_80 : decode cX11_settled 80 = .ok (.iconst 4, 1) := by decide +kernel
theorem dX11_settled_81 : decode cX11_settled 81 = .ok (.iload_n 1, 1) := by decide +kernel
theorem dX11_settled_82 : decode cX11_settled 82 = .ok (.imul, 1) := by decide +kernel
theorem dX11_settled_83 : decode cX11_settled 83 = .ok (.iadd, 1) := by decide +kernel
theorem dX11_settled_84 : decode cX11_settled 84 = .ok (.iload_n 2, 1) := by decide +kernel
theorem dX11_settled_85 : decode cX11_settled 85 = .ok (.iadd, 1) := by decide +kernel
theorem dX11_settled_86 : decode cX11_settled 86 = .ok (.laload, 1) := by decide +kernel
theorem dX11_settled_87 : decode cX11_settled 87 = .ok (.lreturn, 1) := by decide +kernel
theorem dX11_least_0 : decode cX11_least 0 = .ok (.aload_n 0, 1) := by decide +kernel
theorem dX11_least_1 : decode cX11_least 1 = .ok (.iload_n 1, 1) := by decide +kernel
theorem dX11_least_2 : decode cX11_least 2 = .ok (.invokevirtual 117, 3) := by decide +kernel
theorem dX11_least_5 : decode cX11_least 5 = .ok (.ifCond .ne 10, 3) := by decide +kernel
theorem dX11_least_8 : decode cX11_least 8 = .ok (.aload_n 0, 1) := by decide +kernel
theorem dX11_least_9 : decode cX11_least 9 = .ok (.bipush (-3), 2) := by decide +kernel
theorem dX11_least_11 : decode cX11_least 11 = .ok (.invokevirtual 108, 3) := by decide +kernel
theorem dX11_least_14 : decode cX11_least 14 = .ok (.ireturn, 1) := by decide +kernel
theorem dX11_least_15 : decode cX11_least 15 = .ok (.iload_n 2, 1) := by decide +kernel
theorem dX11_least_16 : decode cX11_least 16 = .ok (.ifCond .ge 10, 3) := by decide +kernel
theorem dX11_least_19 : decode cX11_least 19 = .ok (.aload_n 0, 1) := by decide +kernel
theorem dX11_least_20 : decode cX11_least 20 = .ok (.bipush (-7), 2) := by decide +kernel
theorem dX11_least_22 : decode cX11_least 22 = .ok (.invokevirtual 108, 3) := by decide +kernel
theorem dX11_least_25 : decode cX11_least 25 = .ok (.ireturn, 1) := by decide +kernel
theorem dX11_least_26 : decode cX11_least 26 = .ok (.iconst 0, 1) := by decide +kernel
theorem dX11_least_27 : decode cX11_least 27 = .ok (.istore_n 3, 1) := by decide +kernel
theorem dX11_least_28 : decode cX11_least 28 = .ok (.iconst 0, 1) := by decide +kernel
theorem dX11_least_29 : decode cX11_least 29 = .ok (.istore 4, 2) := by decide +kernel
theorem dX11_least_31 : decode cX11_least 31 = .ok (.iload 4, 2) := by decide +kernel
theorem dX11_least_33 : decode cX11_least 33 = .ok (.aload_n 0, 1) := by decide +kernel
theorem dX11_least_34 : decode cX11_least 34 = .ok (.getfield 14, 3) := by decide +kernel
theorem dX11_least_37 : decode cX11_least 37 = .ok (.iconst 1, 1) := by decide +kernel
theorem dX11_least_38 : decode cX11_least 38 = .ok (.iaload, 1) := by decide +kernel
theorem dX11_least_39 : decode cX11_least 39 = .ok (.if_icmp .ge 48, 3) := by decide +kernel
theorem dX11_least_42 : decode cX11_least 42 = .ok (.aload_n 0, 1) := by decide +kernel
theorem dX11_least_43 : decode cX11_least 43 = .ok (.getfield 76, 3) := by decide +kernel
theorem dX11_least_46 : decode cX11_least 46 = .ok (.iload_n 3, 1) := by decide +kernel
theorem dX11_least_47 : decode cX11_least 47 = .ok (.aload_n 0, 1) := by decide +kernel
theorem dX11_least_48 : decode cX11_least 48 = .ok (.iload 4, 2) := by decide +kernel
theorem dX11_least_50 : decode cX11_least 50 = .ok (.iload_n 1, 1) := by decide +kernel
theorem dX11_least_51 : decode cX11_least 51 = .ok (.iload_n 2, 1) := by decide +kernel
theorem dX11_least_52 : decode cX11_least 52 = .ok (.invokevirtual 136, 3) := by decide +kernel
theorem dX11_least_55 : decode cX11_least 55 = .ok (.iastore, 1) := by decide +kernel
theorem dX11_least_56 : decode cX11_least 56 = .ok (.aload_n 0, 1) := by decide +kernel
theorem dX11_least_57 : decode cX11_least 57 = .ok (.getfield 76, 3) := by decide +kernel
theorem dX11_least_60 : decode cX11_least 60 = .ok (.iload_n 3, 1) := by decide +kernel
theorem dX11_least_61 : decode cX11_least 61 = .ok (.iaload, 1) := by decide +kernel
theorem dX11_least_62 : decode cX11_least 62 = .ok (.ifCond .eq 6, 3) := by decide +kernel
theorem dX11_least_65 : decode cX11_least 65 = .ok (.iinc 3 1, 3) := by decide +kernel
theorem dX11_least_68 : decode cX11_least 68 = .ok (.iload_n 3, 1) := by decide +kernel
theorem dX11_least_69 : decode cX11_least 69 = .ok (.bipush 12, 2) := by decide +kernel
theorem dX11_least_71 : decode cX11_least 71 = .ok (.if_icmp .ne 10, 3) := by decide +kernel
theorem dX11_least_74 : decode cX11_least 74 = .ok (.aload_n 0, 1) := by decide +kernel
theorem dX11_least_75 : decode cX11_least 75 = .ok (.bipush (-5), 2) := by decide +kernel
theorem dX11_least_77 : decode cX11_least 77 = .ok (.invokevirtual 108, 3) := by decide +kernel
theorem dX11_least_80 : decode cX11_least 80 = .ok (.ireturn, 1) := by decide +kernel
theorem dX11_least_81 : decode cX11_least 81 = .ok (.iinc 4 1, 3) := by decide +kernel
theorem dX11_least_84 : decode cX11_least 84 = .ok (.goto (-53), 3) := by decide +kernel
theorem dX11_least_87 : decode cX11_least 87 = .ok (.iload_n 3, 1) := by decide +kernel
theorem dX11_least_88 : decode cX11_least 88 = .ok (.bipush 10, 2) := by decide +kernel
theorem dX11_least_90 : decode cX11_least 90 = .ok (.if_icmp .le 10, 3) := by decide +kernel
theorem dX11_least_93 : decode cX11_least 93 = .ok (.aload_n 0, 1) := by decide +kernel
theorem dX11_least_94 : decode cX11_least 94 = .ok (.bipush (-5), 2) := by decide +kernel
theorem dX11_least_96 : decode cX11_least 96 = .ok (.invokevirtual 108, 3) := by decide +kernel
theorem dX11_least_99 : decode cX11_least 99 = .ok (.ireturn, 1) := by decide +kernel
theorem dX11_least_100 : decode cX11_least 100 = .ok (.aload_n 0, 1) := by decide +kernel
theorem dX11_least_101 : decode cX11_least 101 = .ok (.getfield 79, 3) := by decide +kernel
theorem dX11_least_104 : decode cX11_least 104 = .ok (.iconst 0, 1) := by decide +kernel
theorem dX11_least_105 : decode cX11_least 105 = .ok (.iconst 0, 1) := by decide +kernel
theorem dX11_least_106 : decode cX11_least 106 = .ok (.iastore, 1) := by decide +kernel
theorem dX11_least_107 : decode cX11_least 107 = .ok (.aload_n 0, 1) := by decide +kernel
theorem dX11_least_108 : decode cX11_least 108 = .ok (.getfield 82, 3) := by decide +kernel
theorem dX11_least_111 : decode cX11_least 111 = .ok (.iconst 0, 1) := by decide +kernel
theorem dX11_least_112 : decode cX11_least 112 = .ok (.iconst 0, 1) := by decide +kernel
theorem dX11_least_113 : decode cX11_least 113 = .ok (.iastore, 1) := by decide +kernel
theorem dX11_least_114 : decode cX11_least 114 = .ok (.iconst 1, 1) := by decide +kernel
theorem dX11_least_115 : decode cX11_least 115 = .ok (.istore 4, 2) := by decide +kernel
theorem dX11_least_117 : decode cX11_least 117 = .ok (.iload 4, 2) := by decide +kernel
theorem dX11_least_119 : decode cX11_least 119 = .ok (.iconst 1, 1) := by decide +kernel
theorem dX11_least_120 : decode cX11_least 120 = .ok (.iload_n 3, 1) := by decide +kernel
theorem dX11_least_121 : decode cX11_least 121 = .ok (.ishl, 1) := by decide +kernel
theorem dX11_least_122 : decode cX11_least 122 = .ok (.if_icmp .ge 159, 3) := by decide +kernel
theorem dX11_least_125 : decode cX11_least 125 = .ok (.iconst 0, 1) := by decide +kernel
theorem dX11_least_126 : decode cX11_least 126 = .ok (.istore 5, 2) := by decide +kernel
theorem dX11_least_128 : decode cX11_least 128 = .ok (.iload 4, 2) := by decide +kernel
theorem dX11_least_130 : decode cX11_least 130 = .ok (.iload 5, 2) := by decide +kernel
theorem dX11_least_132 : decode cX11_least 132 = .ok (.ishr, 1) := by decide +kernel
theorem dX11_least_133 : decode cX11_least 133 = .ok (.iconst 1, 1) := by decide +kernel
theorem dX11_least_134 : decode cX11_least 134 = .ok (.iand, 1) := by decide +kernel
theorem dX11_least_135 : decode cX11_least 135 = .ok (.ifCond .ne 9, 3) := by decide +kernel
theorem dX11_least_138 : decode cX11_least 138 = .ok (.iinc 5 1, 3) := by decide +kernel
theorem dX11_least_141 : decode cX11_least 141 = .ok (.goto (-13), 3) := by decide +kernel
theorem dX11_least_144 : decode cX11_least 144 = .ok (.aload_n 0, 1) := by decide +kernel
theorem dX11_least_145 : decode cX11_least 145 = .ok (.getfield 79, 3) := by decide +kernel
theorem dX11_least_148 : decode cX11_least 148 = .ok (.iload 4, 2) := by decide +kernel
theorem dX11_least_150 : decode cX11_least 150 = .ok (.aload_n 0, 1) := by decide +kernel
theorem dX11_least_151 : decode cX11_least 151 = .ok (.getfield 79, 3) := by decide +kernel
theorem dX11_least_154 : decode cX11_least 154 = .ok (.iload 4, 2) := by decide +kernel
theorem dX11_least_156 : decode cX11_least 156 = .ok (.iload 4, 2) := by decide +kernel
theorem dX11_least_158 : decode cX11_least 158 = .ok (.iconst 1, 1) := by decide +kernel
theorem dX11_least_159 : decode cX11_least 159 = .ok (.isub, 1) := by decide +kernel
theorem dX11_least_160 : decode cX11_least 160 = .ok (.iand, 1) := by decide +kernel
theorem dX11_least_161 : decode cX11_least 161 = .ok (.iaload, 1) := by decide +kernel
theorem dX11_least_162 : decode cX11_least 162 = .ok (.aload_n 0, 1) := by decide +kernel
theorem dX11_least_163 : decode cX11_least 163 = .ok (.getfield 76, 3) := by decide +kernel
theorem dX11_least_166 : decode cX11_least 166 = .ok (.iload 5, 2) := by decide +kernel
theorem dX11_least_168 : decode cX11_least 168 = .ok (.iaload, 1) := by decide +kernel
theorem dX11_least_169 : decode cX11_least 169 = .ok (.iadd, 1) := by decide +kernel
theorem dX11_least_170 : decode cX11_least 170 = .ok (.iastore, 1) := by decide +kernel
theorem dX11_least_171 : decode cX11_least 171 = .ok (.aload_n 0, 1) := by decide +kernel
theorem dX11_least_172 : decode cX11_least 172 = .ok (.getfield 82, 3) := by decide +kernel
theorem dX11_least_175 : decode cX11_least 175 = .ok (.iload 4, 2) := by decide +kernel
theorem dX11_least_177 : decode cX11_least 177 = .ok (.iconst 0, 1) := by decide +kernel
theorem dX11_least_178 : decode cX11_least 178 = .ok (.iastore, 1) := by decide +kernel
theorem dX11_least_179 : decode cX11_least 179 = .ok (.iconst 0, 1) := by decide +kernel
theorem dX11_least_180 : decode cX11_least 180 = .ok (.istore 6, 2) := by decide +kernel
theorem dX11_least_182 : decode cX11_least 182 = .ok (.iload 6, 2) := by decide +kernel
theorem dX11_least_184 : decode cX11_least 184 = .ok (.iload_n 3, 1) := by decide +kernel
theorem dX11_least_185 : decode cX11_least 185 = .ok (.if_icmp .ge 65, 3) := by decide +kernel
theorem dX11_least_188 : decode cX11_least 188 = .ok (.iload 4, 2) := by decide +kernel
theorem dX11_least_190 : decode cX11_least 190 = .ok (.iload 6, 2) := by decide +kernel
theorem dX11_least_192 : decode cX11_least 192 = .ok (.ishr, 1) := by decide +kernel
theorem dX11_least_193 : decode cX11_least 193 = .ok (.iconst 1, 1) := by decide +kernel
theorem dX11_least_194 : decode cX11_least 194 = .ok (.iand, 1) := by decide +kernel
theorem dX11_least_195 : decode cX11_least 195 = .ok (.iconst 1, 1) := by decide +kernel
theorem dX11_least_196 : decode cX11_least 196 = .ok (.if_icmp .ne 48, 3) := by decide +kernel
theorem dX11_least_199 : decode cX11_least 199 = .ok (.aload_n 0, 1) := by decide +kernel
theorem dX11_least_200 : decode cX11_least 200 = .ok (.getfield 82, 3) := by decide +kernel
theorem dX11_least_203 : decode cX11_least 203 = .ok (.iload 4, 2) := by decide +kernel
theorem dX11_least_205 : decode cX11_least 205 = .ok (.iconst 1, 1) := by decide +kernel
theorem dX11_least_206 : decode cX11_least 206 = .ok (.iload 6, 2) := by decide +kernel
theorem dX11_least_208 : decode cX11_least 208 = .ok (.ishl, 1) := by decide +kernel
theorem dX11_least_209 : decode cX11_least 209 = .ok (.iconst (-1), 1) := by decide +kernel
theorem dX11_least_210 : decode cX11_least 210 = .ok (.ixor, 1) := by decide +kernel
theorem dX11_least_211 : decode cX11_least 211 = .ok (.iand, 1) := by decide +kernel
theorem dX11_least_212 : decode cX11_least 212 = .ok (.iaload, 1) := by decide +kernel
theorem dX11_least_213 : decode cX11_least 213 = .ok (.aload_n 0, 1) := by decide +kernel
theorem dX11_least_214 : decode cX11_least 214 = .ok (.getfield 82, 3) := by decide +kernel
theorem dX11_least_217 : decode cX11_least 217 = .ok (.iload 4, 2) := by decide +kernel
theorem dX11_least_219 : decode cX11_least 219 = .ok (.iaload, 1) := by decide +kernel
theorem dX11_least_220 : decode cX11_least 220 = .ok (.if_icmp .le 24, 3) := by decide +kernel
theorem dX11_least_223 : decode cX11_least 223 = .ok (.aload_n 0, 1) := by decide +kernel
theorem dX11_least_224 : decode cX11_least 224 = .ok (.getfield 82, 3) := by decide +kernel
theorem dX11_least_227 : decode cX11_least 227 = .ok (.iload 4, 2) := by decide +kernel
theorem dX11_least_229 : decode cX11_least 229 = .ok (.aload_n 0, 1) := by decide +kernel
theorem dX11_least_230 : decode cX11_least 230 = .ok (.getfield 82, 3) := by decide +kernel
theorem dX11_least_233 : decode cX11_least 233 = .ok (.iload 4, 2) := by decide +kernel
theorem dX11_least_235 : decode cX11_least 235 = .ok (.iconst 1, 1) := by decide +kernel
theorem dX11_least_236 : decode cX11_least 236 = .ok (.iload 6, 2) := by decide +kernel
theorem dX11_least_238 : decode cX11_least 238 = .ok (.ishl, 1) := by decide +kernel
theorem dX11_least_239 : decode cX11_least 239 = .ok (.iconst (-1), 1) := by decide +kernel
theorem dX11_least_240 : decode cX11_least 240 = .ok (.ixor, 1) := by decide +kernel
theorem dX11_least_241 : decode cX11_least 241 = .ok (.iand, 1) := by decide +kernel
theorem dX11_least_242 : decode cX11_least 242 = .ok (.iaload, 1) := by decide +kernel
theorem dX11_least_243 : decode cX11_least 243 = .ok (.iastore, 1) := by decide +kernel
theorem dX11_least_244 : decode cX11_least 244 = .ok (.iinc 6 1, 3) := by decide +kernel
theorem dX11_least_247 : decode cX11_least 247 = .ok (.goto (-65), 3) := by decide +kernel
theorem dX11_least_250 : decode cX11_least 250 = .ok (.aload_n 0, 1) := by decide +kernel
theorem dX11_least_251 : decode cX11_least 251 = .ok (.getfield 82, 3) := by decide +kernel
theorem dX11_least_254 : decode cX11_least 254 = .ok (.iload 4, 2) := by decide +kernel
theorem dX11_least_256 : decode cX11_least 256 = .ok (.dup2, 1) := by decide +kernel
theorem dX11_least_257 : decode cX11_least 257 = .ok (.iaload, 1) := by decide +kernel
theorem dX11_least_258 : decode cX11_least 258 = .ok (.aload_n 0, 1) := by decide +kernel
theorem dX11_least_259 : decode cX11_least 259 = .ok (.getfield 79, 3) := by decide +kernel
theorem dX11_least_262 : decode cX11_least 262 = .ok (.iload 4, 2) := by decide +kernel
theorem dX11_least_264 : decode cX11_least 264 = .ok (.iaload, 1) := by decide +kernel
theorem dX11_least_265 : decode cX11_least 265 = .ok (.ifCond .ne 7, 3) := by decide +kernel
theorem dX11_least_268 : decode cX11_least 268 = .ok (.iconst 1, 1) := by decide +kernel
theorem dX11_least_269 : decode cX11_least 269 = .ok (.goto 4, 3) := by decide +kernel
theorem dX11_least_272 : decode cX11_least 272 = .ok (.iconst 0, 1) := by decide +kernel
theorem dX11_least_273 : decode cX11_least 273 = .ok (.iadd, 1) := by decide +kernel
theorem dX11_least_274 : decode cX11_least 274 = .ok (.iastore, 1) := by decide +kernel
theorem dX11_least_275 : decode cX11_least 275 = .ok (.iinc 4 1, 3) := by decide +kernel
theorem dX11_least_278 : decode cX11_least 278 = .ok (.goto (-161), 3) := by decide +kernel
theorem dX11_least_281 : decode cX11_least 281 = .ok (.iload_n 3, 1) := by decide +kernel
theorem dX11_least_282 : decode cX11_least 282 = .ok (.aload_n 0, 1) := by decide +kernel
theorem dX11_least_283 : decode cX11_least 283 = .ok (.getfield 82, 3) := by decide +kernel
theorem dX11_least_286 : decode cX11_least 286 = .ok (.iconst 1, 1) := by decide +kernel
theorem dX11_least_287 : decode cX11_least 287 = .ok (.iload_n 3, 1) := by decide +kernel
theorem dX11_least_288 : decode cX11_least 288 = .ok (.ishl, 1) := by decide +kernel
theorem dX11_least_289 : decode cX11_least 289 = .ok (.iconst 1, 1) := by decide +kernel
theorem dX11_least_290 : decode cX11_least 290 = .ok (.isub, 1) := by decide +kernel
theorem dX11_least_291 : decode cX11_least 291 = .ok (.iaload, 1) := by decide +kernel
theorem dX11_least_292 : decode cX11_least 292 = .ok (.isub, 1) := by decide +kernel
theorem dX11_least_293 : decode cX11_least 293 = .ok (.ireturn, 1) := by decide +kernel
theorem dX11_judge_0 : decode cX11_judge 0 = .ok (.aload_n 0, 1) := by decide +kernel
theorem dX11_judge_1 : decode cX11_judge 1 = .ok (.iload_n 1, 1) := by decide +kernel
theorem dX11_judge_2 : decode cX11_judge 2 = .ok (.invokevirtual 117, 3) := by decide +kernel
theorem dX11_judge_5 : decode cX11_judge 5 = .ok (.ifCond .ne 10, 3) := by decide +kernel
theorem dX11_judge_8 : decode cX11_judge 8 = .ok (.aload_n 0, 1) := by decide +kernel
theorem dX11_judge_9 : decode cX11_judge 9 = .ok (.bipush (-3), 2) := by decide +kernel
theorem dX11_judge_11 : decode cX11_judge 11 = .ok (.invokevirtual 108, 3) := by decide +kernel
theorem dX11_judge_14 : decode cX11_judge 14 = .ok (.ireturn, 1) := by decide +kernel
theorem dX11_judge_15 : decode cX11_judge 15 = .ok (.iload_n 2, 1) := by decide +kernel
theorem dX11_judge_16 : decode cX11_judge 16 = .ok (.ifCond .ge 10, 3) := by decide +kernel
theorem dX11_judge_19 : decode cX11_judge 19 = .ok (.aload_n 0, 1) := by decide +kernel
theorem dX11_judge_20 : decode cX11_judge 20 = .ok (.bipush (-7), 2) := by decide +kernel
theorem dX11_judge_22 : decode cX11_judge 22 = .ok (.invokevirtual 108, 3) := by decide +kernel
theorem dX11_judge_25 : decode cX11_judge 25 = .ok (.ireturn, 1) := by decide +kernel
theorem dX11_judge_26 : decode cX11_judge 26 = .ok (.aload_n 0, 1) := by decide +kernel
theorem dX11_judge_27 : decode cX11_judge 27 = .ok (.getfield 394, 3) := by decide +kernel
theorem dX11_judge_30 : decode cX11_judge 30 = .ok (.ifCond .ne 10, 3) := by decide +kernel
theorem dX11_judge_33 : decode cX11_judge 33 = .ok (.aload_n 0, 1) := by decide +kernel
theorem dX11_judge_34 : decode cX11_judge 34 = .ok (.bipush (-2), 2) := by decide +kernel
theorem dX11_judge_36 : decode cX11_judge 36 = .ok (.invokevirtual 108, 3) := by decide +kernel
theorem dX11_judge_39 : decode cX11_judge 39 = .ok (.ireturn, 1) := by decide +kernel
theorem dX11_judge_40 : decode cX11_judge 40 = .ok (.aload_n 0, 1) := by decide +kernel
theorem dX11_judge_41 : decode cX11_judge 41 = .ok (.getfield 397, 3) := by decide +kernel
theorem dX11_judge_44 : decode cX11_judge 44 = .ok (.iconst 3, 1) := by decide +kernel
theorem dX11_judge_45 : decode cX11_judge 45 = .ok (.irem, 1) := by decide +kernel
theorem dX11_judge_46 : decode cX11_judge 46 = .ok (.ifCond .eq 10, 3) := by decide +kernel
theorem dX11_judge_49 : decode cX11_judge 49 = .ok (.aload_n 0, 1) := by decide +kernel
theorem dX11_judge_50 : decode cX11_judge 50 = .ok (.bipush (-5), 2) := by decide +kernel
theorem dX11_judge_52 : decode cX11_judge 52 = .ok (.invokevirtual 108, 3) := by decide +kernel
theorem dX11_judge_55 : decode cX11_judge 55 = .ok (.ireturn, 1) := by decide +kernel
theorem dX11_judge_56 : decode cX11_judge 56 = .ok (.iconst 0, 1) := by decide +kernel
theorem dX11_judge_57 : decode cX11_judge 57 = .ok (.istore_n 3, 1) := by decide +kernel
theorem dX11_judge_58 : decode cX11_judge 58 = .ok (.iload_n 3, 1) := by decide +kernel
theorem dX11_judge_59 : decode cX11_judge 59 = .ok (.bipush 12, 2) := by decide +kernel
theorem dX11_judge_61 : decode cX11_judge 61 = .ok (.if_icmp .ge 34, 3) := by decide +kernel
theorem dX11_judge_64 : decode cX11_judge 64 = .ok (.aload_n 0, 1) := by decide +kernel
theorem dX11_judge_65 : decode cX11_judge 65 = .ok (.getfield 73, 3) := by decide +kernel
theorem dX11_judge_68 : decode cX11_judge 68 = .ok (.iload_n 3, 1) := by decide +kernel
theorem dX11_judge_69 : decode cX11_judge 69 = .ok (.aload_n 0, 1) := by decide +kernel
theorem dX11_judge_70 : decode cX11_judge 70 = .ok (.iload_n 3, 1) := by decide +kernel
theorem dX11_judge_71 : decode cX11_judge 71 = .ok (.invokevirtual 113, 3) := by decide +kernel
theorem dX11_judge_74 : decode cX11_judge 74 = .ok (.ifCond .eq 13, 3) := by decide +kernel
theorem dX11_judge_77 : decode cX11_judge 77 = .ok (.aload_n 0, 1) := by decide +kernel
theorem dX11_judge_78 : decode cX11_judge 78 = .ok (.iload_n 3, 1) := by decide +kernel
theorem dX11_judge_79 : decode cX11_judge 79 = .ok (.iload_n 1, 1) := by decide +kernel
theorem dX11_judge_80 : decode cX11_judge 80 = .ok (.iload_n 2, 1) := by decide +kernel
theorem dX11_judge_81 : decode cX11_judge 81 = .ok (.invokevirtual 136, 3) := by decide +kernel
theorem dX11_judge_84 : decode cX11_judge 84 = .ok (.goto 4, 3) := by decide +kernel
theorem dX11_judge_87 : decode cX11_judge 87 = .ok (.iconst 0, 1) := by decide +kernel
theorem dX11_judge_88 : decode cX11_judge 88 = .ok (.iastore, 1) := by decide +kernel
theorem dX11_judge_89 : decode cX11_judge 89 = .ok (.iinc 3 1, 3) := by decide +kernel
theorem dX11_judge_92 : decode cX11_judge 92 = .ok (.goto (-34), 3) := by decide +kernel
theorem dX11_judge_95 : decode cX11_judge 95 = .ok (.iconst 0, 1) := by decide +kernel
theorem dX11_judge_96 : decode cX11_judge 96 = .ok (.istore_n 3, 1) := by decide +kernel
theorem dX11_judge_97 : decode cX11_judge 97 = .ok (.iload_n 3, 1) := by decide +kernel
theorem dX11_judge_98 : decode cX11_judge 98 = .ok (.bipush 12, 2) := by decide +kernel
theorem dX11_judge_100 : decode cX11_judge 100 = .ok (.if_icmp .ge 21, 3) := by decide +kernel
theorem dX11_judge_103 : decode cX11_judge 103 = .ok (.aload_n 0, 1) := by decide +kernel
theorem dX11_judge_104 : decode cX11_judge 104 = .ok (.getfield 76, 3) := by decide +kernel
theorem dX11_judge_107 : decode cX11_judge 107 = .ok (.iload_n 3, 1) := by decide +kernel
theorem dX11_judge_108 : decode cX11_judge 108 = .ok (.aload_n 0, 1) := by decide +kernel
theorem dX11_judge_109 : decode cX11_judge 109 = .ok (.getfield 73, 3) := by decide +kernel
theorem dX11_judge_112 : decode cX11_judge 112 = .ok (.iload_n 3, 1) := by decide +kernel
theorem dX11_judge_113 : decode cX11_judge 113 = .ok (.iaload, 1) := by decide +kernel
theorem dX11_judge_114 : decode cX11_judge 114 = .ok (.iastore, 1) := by decide +kernel
theorem dX11_judge_115 : decode cX11_judge 115 = .ok (.iinc 3 1, 3) := by decide +kernel
theorem dX11_judge_118 : decode cX11_judge 118 = .ok (.goto (-21), 3) := by decide +kernel
theorem dX11_judge_121 : decode cX11_judge 121 = .ok (.iconst 0, 1) := by decide +kernel
theorem dX11_judge_122 : decode cX11_judge 122 = .ok (.istore_n 3, 1) := by decide +kernel
theorem dX11_judge_123 : decode cX11_judge 123 = .ok (.iload_n 3, 1) := by decide +kernel
theorem dX11_judge_124 : decode cX11_judge 124 = .ok (.aload_n 0, 1) := by decide +kernel
theorem dX11_judge_125 : decode cX11_judge 125 = .ok (.getfield 397, 3) := by decide +kernel
theorem dX11_judge_128 : decode cX11_judge 128 = .ok (.if_icmp .ge 132, 3) := by decide +kernel
theorem dX11_judge_131 : decode cX11_judge 131 = .ok (.aload_n 0, 1) := by decide +kernel
theorem dX11_judge_132 : decode cX11_judge 132 = .ok (.getfield 101, 3) := by decide +kernel
theorem dX11_judge_135 : decode cX11_judge 135 = .ok (.iload_n 3, 1) := by decide +kernel
theorem dX11_judge_136 : decode cX11_judge 136 = .ok (.iaload, 1) := by decide +kernel
theorem dX11_judge_137 : decode cX11_judge 137 = .ok (.istore 4, 2) := by decide +kernel
theorem dX11_judge_139 : decode cX11_judge 139 = .ok (.aload_n 0, 1) := by decide +kernel
theorem dX11_judge_140 : decode cX11_judge 140 = .ok (.getfield 101, 3) := by decide +kernel
theorem dX11_judge_143 : decode cX11_judge 143 = .ok (.iload_n 3, 1) := by decide +kernel
theorem dX11_judge_144 : decode cX11_judge 144 = .ok (.iconst 1, 1) := by decide +kernel
theorem dX11_judge_145 : decode cX11_judge 145 = .ok (.iadd, 1) := by decide +kernel
theorem dX11_judge_146 : decode cX11_judge 146 = .ok (.iaload, 1) := by decide +kernel
theorem dX11_judge_147 : decode cX11_judge 147 = .ok (.istore 5, 2) := by decide +kernel
theorem dX11_judge_149 : decode cX11_judge 149 = .ok (.aload_n 0, 1) := by decide +kernel
theorem dX11_judge_150 : decode cX11_judge 150 = .ok (.getfield 101, 3) := by decide +kernel
theorem dX11_judge_153 : decode cX11_judge 153 = .ok (.iload_n 3, 1) := by decide +kernel
theorem dX11_judge_154 : decode cX11_judge 154 = .ok (.iconst 2, 1) := by decide +kernel
theorem dX11_judge_155 : decode cX11_judge 155 = .ok (.iadd, 1) := by decide +kernel
theorem dX11_judge_156 : decode cX11_judge 156 = .ok (.iaload, 1) := by decide +kernel
theorem dX11_judge_157 : decode cX11_judge 157 = .ok (.istore 6, 2) := by decide +kernel
theorem dX11_judge_159 : decode cX11_judge 159 = .ok (.aload_n 0, 1) := by decide +kernel
theorem dX11_judge_160 : decode cX11_judge 160 = .ok (.iload 4, 2) := by decide +kernel
theorem dX11_judge_162 : decode cX11_judge 162 = .ok (.invokevirtual 113, 3) := by decide +kernel
theorem dX11_judge_165 : decode cX11_judge 165 = .ok (.ifCond .eq 63, 3) := by decide +kernel
theorem dX11_judge_168 : decode cX11_judge 168 = .ok (.aload_n 0, 1) := by decide +kernel
theorem dX11_judge_169 : decode cX11_judge 169 = .ok (.iload 5, 2) := by decide +kernel
theorem dX11_judge_171 : decode cX11_judge 171 = .ok (.invokevirtual 113, 3) := by decide +kernel
theorem dX11_judge_174 : decode cX11_judge 174 = .ok (.ifCond .eq 54, 3) := by decide +kernel
theorem dX11_judge_177 : decode cX11_judge 177 = .ok (.iload 6, 2) := by decide +kernel
theorem dX11_judge_179 : decode cX11_judge 179 = .ok (.iconst 1, 1) := by decide +kernel
theorem dX11_judge_180 : decode cX11_judge 180 = .ok (.if_icmp .lt 48, 3) := by decide +kernel
theorem dX11_judge_183 : decode cX11_judge 183 = .ok (.aload_n 0, 1) := by decide +kernel
theorem dX11_judge_184 : decode cX11_judge 184 = .ok (.getfield 73, 3) := by decide +kernel
theorem dX11_judge_187 : decode cX11_judge 187 = .ok (.iload 4, 2) := by decide +kernel
theorem dX11_judge_189 : decode cX11_judge 189 = .ok (.iaload, 1) := by decide +kernel
theorem dX11_judge_190 : decode cX11_judge 190 = .ok (.ifCond .ge 38, 3) := by decide +kernel
theorem dX11_judge_193 : decode cX11_judge 193 = .ok (.aload_n 0, 1) := by decide +kernel
theorem dX11_judge_194 : decode cX11_judge 194 = .ok (.getfield 73, 3) := by decide +kernel
theorem dX11_judge_197 : decode cX11_judge 197 = .ok (.iload 5, 2) := by decide +kernel
theorem dX11_judge_199 : decode cX11_judge 199 = .ok (.iaload, 1) := by decide +kernel
theorem dX11_judge_200 : decode cX11_judge 200 = .ok (.ifCond .le 28, 3) := by decide +kernel
theorem dX11_judge_203 : decode cX11_judge 203 = .ok (.iload 6, 2) := by decide +kernel
theorem dX11_judge_205 : decode cX11_judge 205 = .ok (.aload_n 0, 1) := by decide +kernel
theorem dX11_judge_206 : decode cX11_judge 206 = .ok (.getfield 76, 3) := by decide +kernel
theorem dX11_judge_209 : decode cX11_judge 209 = .ok (.iload 4, 2) := by decide +kernel
theorem dX11_judge_211 : decode cX11_judge 211 = .ok (.iaload, 1) := by decide +kernel
theorem dX11_judge_212 : decode cX11_judge 212 = .ok (.ineg, 1) := by decide +kernel
theorem dX11_judge_213 : decode cX11_judge 213 = .ok (.if_icmp .gt 15, 3) := by decide +kernel
theorem dX11_judge_216 : decode cX11_judge 216 = .ok (.iload 6, 2) := by decide +kernel
theorem dX11_judge_218 : decode cX11_judge 218 = .ok (.aload_n 0, 1) := by decide +kernel
theorem dX11_judge_219 : decode cX11_judge 219 = .ok (.getfield 76, 3) := by decide +kernel
theorem dX11_judge_222 : decode cX11_judge 222 = .ok (.iload 5, 2) := by decide +kernel
theorem dX11_judge_224 : decode cX11_judge 224 = .ok (.iaload, 1) := by decide +kernel
theorem dX11_judge_225 : decode cX11_judge 225 = .ok (.if_icmp .le 5, 3) := by decide +kernel
theorem dX11_judge_228 : decode cX11_judge 228 = .ok (.iconst (-1), 1) := by decide +kernel
theorem dX11_judge_229 : decode cX11_judge 229 = .ok (.ireturn, 1) := by decide +kernel
theorem dX11_judge_230 : decode cX11_judge 230 = .ok (.aload_n 0, 1) := by decide +kernel
theorem dX11_judge_231 : decode cX11_judge 231 = .ok (.getfield 76, 3) := by decide +kernel
theorem dX11_judge_234 : decode cX11_judge 234 = .ok (.iload 4, 2) := by decide +kernel
theorem dX11_judge_236 : decode cX11_judge 236 = .ok (.dup2, 1) := by decide +kernel
theorem dX11_judge_237 : decode cX11_judge 237 = .ok (.iaload, 1) := by decide +kernel
theorem dX11_judge_238 : decode cX11_judge 238 = .ok (.iload 6, 2) := by decide +kernel
theorem dX11_judge_240 : decode cX11_judge 240 = .ok (.iadd, 1) := by decide +kernel
theorem dX11_judge_241 : decode cX11_judge 241 = .ok (.iastore, 1) := by decide +kernel
theorem dX11_judge_242 : decode cX11_judge 242 = .ok (.aload_n 0, 1) := by decide +kernel
theorem dX11_judge_243 : decode cX11_judge 243 = .ok (.getfield 76, 3) := by decide +kernel
theorem dX11_judge_246 : decode cX11_judge 246 = .ok (.iload 5, 2) := by decide +kernel
theorem dX11_judge_248 : decode cX11_judge 248 = .ok (.dup2, 1) := by decide +kernel
theorem dX11_judge_249 : decode cX11_judge 249 = .ok (.iaload, 1) := by decide +kernel
theorem dX11_judge_250 : decode cX11_judge 250 = .ok (.iload 6, 2) := by decide +kernel
theorem dX11_judge_252 : decode cX11_judge 252 = .ok (.isub, 1) := by decide +kernel
theorem dX11_judge_253 : decode cX11_judge 253 = .ok (.iastore, 1) := by decide +kernel
theorem dX11_judge_254 : decode cX11_judge 254 = .ok (.iinc 3 3, 3) := by decide +kernel
theorem dX11_judge_257 : decode cX11_judge 257 = .ok (.goto (-134), 3) := by decide +kernel
theorem dX11_judge_260 : decode cX11_judge 260 = .ok (.iconst 0, 1) := by decide +kernel
theorem dX11_judge_261 : decode cX11_judge 261 = .ok (.istore_n 3, 1) := by decide +kernel
theorem dX11_judge_262 : decode cX11_judge 262 = .ok (.iload_n 3, 1) := by decide +kernel
theorem dX11_judge_263 : decode cX11_judge 263 = .ok (.bipush 12, 2) := by decide +kernel
theorem dX11_judge_265 : decode cX11_judge 265 = .ok (.if_icmp .ge 20, 3) := by decide +kernel
theorem dX11_judge_268 : decode cX11_judge 268 = .ok (.aload_n 0, 1) := by decide +kernel
theorem dX11_judge_269 : decode cX11_judge 269 = .ok (.getfield 76, 3) := by decide +kernel
theorem dX11_judge_272 : decode cX11_judge 272 = .ok (.iload_n 3, 1) := by decide +kernel
theorem dX11_judge_273 : decode cX11_judge 273 = .ok (.iaload, 1) := by decide +kernel
theorem dX11_judge_274 : decode cX11_judge 274 = .ok (.ifCond .eq 5, 3) := by decide +kernel
theorem dX11_judge_277 : decode cX11_judge 277 = .ok (.iconst (-1), 1) := by decide +kernel
theorem dX11_judge_278 : decode cX11_judge 278 = .ok (.ireturn, 1) := by decide +kernel
theorem dX11_judge_279 : decode cX11_judge 279 = .ok (.iinc 3 1, 3) := by decide +kernel
theorem dX11_judge_282 : decode cX11_judge 282 = .ok (.goto (-20), 3) := by decide +kernel
theorem dX11_judge_285 : decode cX11_judge 285 = .ok (.aload_n 0, 1) := by decide +kernel
theorem dX11_judge_286 : decode cX11_judge 286 = .ok (.getfield 397, 3) := by decide +kernel
theorem dX11_judge_289 : decode cX11_judge 289 = .ok (.iconst 3, 1) := by decide +kernel
theorem dX11_judge_290 : decode cX11_judge 290 = .ok (.idiv, 1) := by decide +kernel
theorem dX11_judge_291 : decode cX11_judge 291 = .ok (.ireturn, 1) := by decide +kernel
theorem dX11_there_0 : decode cX11_there 0 = .ok (.aload_n 0, 1) := by decide +kernel
theorem dX11_there_1 : decode cX11_there 1 = .ok (.getfield 14, 3) := by decide +kernel
theorem dX11_there_4 : decode cX11_there 4 = .ok (.bipush 64, 2) := by decide +kernel
theorem dX11_there_6 : decode cX11_there 6 = .ok (.iconst 5, 1) := by decide +kernel
theorem dX11_there_7 : decode cX11_there 7 = .ok (.iload_n 1, 1) := by decide +kernel
theorem dX11_there_8 : decode cX11_there 8 = .ok (.imul, 1) := by decide +kernel
theorem dX11_there_9 : decode cX11_there 9 = .ok (.iadd, 1) := by decide +kernel
theorem dX11_there_10 : decode cX11_there 10 = .ok (.iload_n 2, 1) := by decide +kernel
theorem dX11_there_11 : decode cX11_there 11 = .ok (.iadd, 1) := by decide +kernel
theorem dX11_there_12 : decode cX11_there 12 = .ok (.iaload, 1) := by decide +kernel
theorem dX11_there_13 : decode cX11_there 13 = .ok (.aload_n 0, 1) := by decide +kernel
theorem dX11_there_14 : decode cX11_there 14 = .ok (.iload_n 1, 1) := by decide +kernel
theorem dX11_there_15 : decode cX11_there 15 = .ok (.iload_n 2, 1) := by decide +kernel
theorem dX11_there_16 : decode cX11_there 16 = .ok (.aload_n 0, 1) := by decide +kernel
theorem dX11_there_17 : decode cX11_there 17 = .ok (.getfield 14, 3) := by decide +kernel
theorem dX11_there_20 : decode cX11_there 20 = .ok (.iconst 0, 1) := by decide +kernel
theorem dX11_there_21 : decode cX11_there 21 = .ok (.iaload, 1) := by decide +kernel
theorem dX11_there_22 : decode cX11_there 22 = .ok (.bipush 14, 2) := by decide +kernel
theorem dX11_there_24 : decode cX11_there 24 = .ok (.idiv, 1) := by decide +kernel
theorem dX11_there_25 : decode cX11_there 25 = .ok (.invokevirtual 136, 3) := by decide +kernel
theorem dX11_there_28 : decode cX11_there 28 = .ok (.iadd, 1) := by decide +kernel
theorem dX11_there_29 : decode cX11_there 29 = .ok (.ireturn, 1) := by decide +kernel
theorem dX11_sumOf_0 : decode cX11_sumOf 0 = .ok (.iconst 0, 1) := by decide +kernel
theorem dX11_sumOf_1 : decode cX11_sumOf 1 = .ok (.istore 4, 2) := by decide +kernel
theorem dX11_sumOf_3 : decode cX11_sumOf 3 = .ok (.iconst 0, 1) := by decide +kernel
theorem dX11_sumOf_4 : decode cX11_sumOf 4 = .ok (.istore 5, 2) := by decide +kernel
theorem dX11_sumOf_6 : decode cX11_sumOf 6 = .ok (.iload 5, 2) := by decide +kernel
theorem dX11_sumOf_8 : decode cX11_sumOf 8 = .ok (.aload_n 0, 1) := by decide +kernel
theorem dX11_sumOf_9 : decode cX11_sumOf 9 = .ok (.getfield 14, 3) := by decide +kernel
theorem dX11_sumOf_12 : decode cX11_sumOf 12 = .ok (.iconst 1, 1) := by decide +kernel
theorem dX11_sumOf_13 : decode cX11_sumOf 13 = .ok (.iaload, 1) := by decide +kernel
theorem dX11_sumOf_14 : decode cX11_sumOf 14 = .ok (.if_icmp .ge 71, 3) := by decide +kernel
theorem dX11_sumOf_17 : decode cX11_sumOf 17 = .ok (.iload 5, 2) := by decide +kernel
theorem dX11_sumOf_19 : decode cX11_sumOf 19 = .ok (.iload_n 2, 1) := by decide +kernel
theorem dX11_sumOf_20 : decode cX11_sumOf 20 = .ok (.if_icmp .eq 59, 3) := by decide +kernel
theorem dX11_sumOf_23 : decode cX11_sumOf 23 = .ok (.aload_n 0, 1) := by decide +kernel
theorem dX11_sumOf_24 : decode cX11_sumOf 24 = .ok (.iload 5, 2) := by decide +kernel
theorem dX11_sumOf_26 : decode cX11_sumOf 26 = .ok (.invokevirtual 120, 3) := by decide +kernel
theorem dX11_sumOf_29 : decode cX11_sumOf 29 = .ok (.ifCond .ne 6, 3) := by decide +kernel
theorem dX11_sumOf_32 : decode cX11_sumOf 32 = .ok (.goto 47, 3) := by decide +kernel
theorem dX11_sumOf_35 : decode cX11_sumOf 35 = .ok (.aload_n 0, 1) := by decide +kernel
theorem dX11_sumOf_36 : decode cX11_sumOf 36 = .ok (.iload 5, 2) := by decide +kernel
theorem dX11_sumOf_38 : decode cX11_sumOf 38 = .ok (.iload_n 1, 1) := by decide +kernel
theorem dX11_sumOf_39 : decode cX11_sumOf 39 = .ok (.invokevirtual 400, 3) := by decide +kernel
theorem dX11_sumOf_42 : decode cX11_sumOf 42 = .ok (.istore 6, 2) := by decide +kernel
theorem dX11_sumOf_44 : decode cX11_sumOf 44 = .ok (.iload 4, 2) := by decide +kernel
theorem dX11_sumOf_46 : decode cX11_sumOf 46 = .ok (.iload_n 3, 1) := by decide +kernel
theorem dX11_sumOf_47 : decode cX11_sumOf 47 = .ok (.ifCond .eq 18, 3) := by decide +kernel
theorem dX11_sumOf_50 : decode cX11_sumOf 50 = .ok (.iload 6, 2) := by decide +kernel
theorem dX11_sumOf_52 : decode cX11_sumOf 52 = .ok (.ifCond .ge 9, 3) := by decide +kernel
theorem dX11_sumOf_55 : decode cX11_sumOf 55 = .ok (.iload 6, 2) := by decide +kernel
theorem dX11_sumOf_57 : decode cX11_sumOf 57 = .ok (.ineg, 1) := by decide +kernel
theorem dX11_sumOf_58 : decode cX11_sumOf 58 = .ok (.goto 18, 3) := by decide +kernel
theorem dX11_sumOf_61 : decode cX11_sumOf 61 = .ok (.iconst 0, 1) := by decide +kernel
theorem dX11_sumOf_62 : decode cX11_sumOf 62 = .ok (.goto 14, 3) := by decide +kernel
theorem dX11_sumOf_65 : decode cX11_sumOf 65 = .ok (.iload 6, 2) := by decide +kernel
theorem dX11_sumOf_67 : decode cX11_sumOf 67 = .ok (.ifCond .le 8, 3) := by decide +kernel
theorem dX11_sumOf_70 : decode cX11_sumOf 70 = .ok (.iload 6, 2) := by decide +kernel
theorem dX11_sumOf_72 : decode cX11_sumOf 72 = .ok (.goto 4, 3) := by decide +kernel
theorem dX11_sumOf_75 : decode cX11_sumOf 75 = .ok (.iconst 0, 1) := by decide +kernel
theorem dX11_sumOf_76 : decode cX11_sumOf 76 = .ok (.iadd, 1) := by decide +kernel
theorem dX11_sumOf_77 : decode cX11_sumOf 77 = .ok (.istore 4, 2) := by decide +kernel
theorem dX11_sumOf_79 : decode cX11_sumOf 79 = .ok (.iinc 5 1, 3) := by decide +kernel
theorem dX11_sumOf_82 : decode cX11_sumOf 82 = .ok (.goto (-76), 3) := by decide +kernel
theorem dX11_sumOf_85 : decode cX11_sumOf 85 = .ok (.iload 4, 2) := by decide +kernel
theorem dX11_sumOf_87 : decode cX11_sumOf 87 = .ok (.ireturn, 1) := by decide +kernel
theorem dX11_corner_0 : decode cX11_corner 0 = .ok (.aload_n 0, 1) := by decide +kernel
theorem dX11_corner_1 : decode cX11_corner 1 = .ok (.iload_n 1, 1) := by decide +kernel
theorem dX11_corner_2 : decode cX11_corner 2 = .ok (.invokevirtual 117, 3) := by decide +kernel
theorem dX11_corner_5 : decode cX11_corner 5 = .ok (.ifCond .eq 11, 3) := by decide +kernel
theorem dX11_corner_8 : decode cX11_corner 8 = .ok (.aload_n 0, 1) := by decide +kernel
theorem dX11_corner_9 : decode cX11_corner 9 = .ok (.iload_n 2, 1) := by decide +kernel
theorem dX11_corner_10 : decode cX11_corner 10 = .ok (.invokevirtual 113, 3) := by decide +kernel
theorem dX11_corner_13 : decode cX11_corner 13 = .ok (.ifCond .ne 10, 3) := by decide +kernel
theorem dX11_corner_16 : decode cX11_corner 16 = .ok (.aload_n 0, 1) := by decide +kernel
theorem dX11_corner_17 : decode cX11_corner 17 = .ok (.bipush (-3), 2) := by decide +kernel
theorem dX11_corner_19 : decode cX11_corner 19 = .ok (.invokevirtual 108, 3) := by decide +kernel
theorem dX11_corner_22 : decode cX11_corner 22 = .ok (.ireturn, 1) := by decide +kernel
theorem dX11_corner_23 : decode cX11_corner 23 = .ok (.iload_n 3, 1) := by decide +kernel
theorem dX11_corner_24 : decode cX11_corner 24 = .ok (.iconst 0, 1) := by decide +kernel
theorem dX11_corner_25 : decode cX11_corner 25 = .ok (.iconst 2, 1) := by decide +kernel
theorem dX11_corner_26 : decode cX11_corner 26 = .ok (.invokestatic 104, 3) := by decide +kernel
theorem dX11_corner_29 : decode cX11_corner 29 = .ok (.ifCond .ne 10, 3) := by decide +kernel
theorem dX11_corner_32 : decode cX11_corner 32 = .ok (.aload_n 0, 1) := by decide +kernel
theorem dX11_corner_33 : decode cX11_corner 33 = .ok (.bipush (-7), 2) := by decide +kernel
theorem dX11_corner_35 : decode cX11_corner 35 = .ok (.invokevirtual 108, 3) := by decide +kernel
theorem dX11_corner_38 : decode cX11_corner 38 = .ok (.ireturn, 1) := by decide +kernel
theorem dX11_corner_39 : decode cX11_corner 39 = .ok (.aload_n 0, 1) := by decide +kernel
theorem dX11_corner_40 : decode cX11_corner 40 = .ok (.iload_n 1, 1) := by decide +kernel
theorem dX11_corner_41 : decode cX11_corner 41 = .ok (.iload_n 2, 1) := by decide +kernel
theorem dX11_corner_42 : decode cX11_corner 42 = .ok (.iconst 1, 1) := by decide +kernel
theorem dX11_corner_43 : decode cX11_corner 43 = .ok (.invokevirtual 403, 3) := by decide +kernel
theorem dX11_corner_46 : decode cX11_corner 46 = .ok (.istore 4, 2) := by decide +kernel
theorem dX11_corner_48 : decode cX11_corner 48 = .ok (.aload_n 0, 1) := by decide +kernel
theorem dX11_corner_49 : decode cX11_corner 49 = .ok (.iload_n 1, 1) := by decide +kernel
theorem dX11_corner_50 : decode cX11_corner 50 = .ok (.iload_n 2, 1) := by decide +kernel
theorem dX11_corner_51 : decode cX11_corner 51 = .ok (.iconst 0, 1) := by decide +kernel
theorem dX11_corner_52 : decode cX11_corner 52 = .ok (.invokevirtual 403, 3) := by decide +kernel
theorem dX11_corner_55 : decode cX11_corner 55 = .ok (.istore 5, 2) := by decide +kernel
theorem dX11_corner_57 : decode cX11_corner 57 = .ok (.iload_n 3, 1) := by decide +kernel
theorem dX11_corner_58 : decode cX11_corner 58 = .ok (.iconst 1, 1) := by decide +kernel
theorem dX11_corner_59 : decode cX11_corner 59 = .ok (.if_icmp .ne 8, 3) := by decide +kernel
theorem dX11_corner_62 : decode cX11_corner 62 = .ok (.iload 4, 2) := by decide +kernel
theorem dX11_corner_64 : decode cX11_corner 64 = .ok (.goto 29, 3) := by decide +kernel
theorem dX11_corner_67 : decode cX11_corner 67 = .ok (.iload_n 3, 1) := by decide +kernel
theorem dX11_corner_68 : decode cX11_corner 68 = .ok (.iconst 2, 1) := by decide +kernel
theorem dX11_corner_69 : decode cX11_corner 69 = .ok (.if_icmp .ne 8, 3) := by decide +kernel
theorem dX11_corner_72 : decode cX11_corner 72 = .ok (.iload 5, 2) := by decide +kernel
theorem dX11_corner_74 : decode cX11_corner 74 = .ok (.goto 19, 3) := by decide +kernel
theorem dX11_corner_77 : decode cX11_corner 77 = .ok (.iload 4, 2) := by decide +kernel
theorem dX11_corner_79 : decode cX11_corner 79 = .ok (.iload 5, 2) := by decide +kernel
theorem dX11_corner_81 : decode cX11_corner 81 = .ok (.if_icmp .le 11, 3) := by decide +kernel
theorem dX11_corner_84 : decode cX11_corner 84 = .ok (.iload 4, 2) := by decide +kernel
theorem dX11_corner_86 : decode cX11_corner 86 = .ok (.iload 5, 2) := by decide +kernel
theorem dX11_corner_88 : decode cX11_corner 88 = .ok (.isub, 1) := by decide +kernel
theorem dX11_corner_89 : decode cX11_corner 89 = .ok (.goto 4, 3) := by decide +kernel
theorem dX11_corner_92 : decode cX11_corner 92 = .ok (.iconst 0, 1) := by decide +kernel
theorem dX11_corner_93 : decode cX11_corner 93 = .ok (.ireturn, 1) := by decide +kernel
theorem dX11_squeeze_0 : decode cX11_squeeze 0 = .ok (.aload_n 0, 1) := by decide +kernel
theorem dX11_squeeze_1 : decode cX11_squeeze 1 = .ok (.iload_n 1, 1) := by decide +kernel
theorem dX11_squeeze_2 : decode cX11_squeeze 2 = .ok (.invokevirtual 117, 3) := by decide +kernel
theorem dX11_squeeze_5 : decode cX11_squeeze 5 = .ok (.ifCond .eq 11, 3) := by decide +kernel
theorem dX11_squeeze_8 : decode cX11_squeeze 8 = .ok (.aload_n 0, 1) := by decide +kernel
theorem dX11_squeeze_9 : decode cX11_squeeze 9 = .ok (.iload_n 2, 1) := by decide +kernel
theorem dX11_squeeze_10 : decode cX11_squeeze 10 = .ok (.invokevirtual 113, 3) := by decide +kernel
theorem dX11_squeeze_13 : decode cX11_squeeze 13 = .ok (.ifCond .ne 11, 3) := by decide +kernel
theorem dX11_squeeze_16 : decode cX11_squeeze 16 = .ok (.aload_n 0, 1) := by decide +kernel
theorem dX11_squeeze_17 : decode cX11_squeeze 17 = .ok (.bipush (-3), 2) := by decide +kernel
theorem dX11_squeeze_19 : decode cX11_squeeze 19 = .ok (.invokevirtual 130, 3) := by decide +kernel
theorem dX11_squeeze_22 : decode cX11_squeeze 22 = .ok (.i2l, 1) := by decide +kernel
theorem dX11_squeeze_23 : decode cX11_squeeze 23 = .ok (.lreturn, 1) := by decide +kernel
theorem dX11_squeeze_24 : decode cX11_squeeze 24 = .ok (.aload_n 0, 1) := by decide +kernel
theorem dX11_squeeze_25 : decode cX11_squeeze 25 = .ok (.iload_n 1, 1) := by decide +kernel
theorem dX11_squeeze_26 : decode cX11_squeeze 26 = .ok (.iload_n 2, 1) := by decide +kernel
theorem dX11_squeeze_27 : decode cX11_squeeze 27 = .ok (.iconst 1, 1) := by decide +kernel
theorem dX11_squeeze_28 : decode cX11_squeeze 28 = .ok (.invokevirtual 403, 3) := by decide +kernel
theorem dX11_squeeze_31 : decode cX11_squeeze 31 = .ok (.istore_n 3, 1) := by decide +kernel
theorem dX11_squeeze_32 : decode cX11_squeeze 32 = .ok (.iconst 0, 1) := by decide +kernel
theorem dX11_squeeze_33 : decode cX11_squeeze 33 = .ok (.istore 4, 2) := by decide +kernel
theorem dX11_squeeze_35 : decode cX11_squeeze 35 = .ok (.iload 4, 2) := by decide +kernel
theorem dX11_squeeze_37 : decode cX11_squeeze 37 = .ok (.aload_n 0, 1) := by decide +kernel
theorem dX11_squeeze_38 : decode cX11_squeeze 38 = .ok (.getfield 14, 3) := by decide +kernel
theorem dX11_squeeze_41 : decode cX11_squeeze 41 = .ok (.iconst 1, 1) := by decide +kernel
theorem dX11_squeeze_42 : decode cX11_squeeze 42 = .ok (.iaload, 1) := by decide +kernel
theorem dX11_squeeze_43 : decode cX11_squeeze 43 = .ok (.if_icmp .ge 45, 3) := by decide +kernel
theorem dX11_squeeze_46 : decode cX11_squeeze 46 = .ok (.aload_n 0, 1) := by decide +kernel
theorem dX11_squeeze_47 : decode cX11_squeeze 47 = .ok (.iload 4, 2) := by decide +kernel
theorem dX11_squeeze_49 : decode cX11_squeeze 49 = .ok (.iload_n 1, 1) := by decide +kernel
theorem dX11_squeeze_50 : decode cX11_squeeze 50 = .ok (.invokevirtual 400, 3) := by decide +kernel
theorem dX11_squeeze_53 : decode cX11_squeeze 53 = .ok (.istore 5, 2) := by decide +kernel
theorem dX11_squeeze_55 : decode cX11_squeeze 55 = .ok (.aload_n 0, 1) := by decide +kernel
theorem dX11_squeeze_56 : decode cX11_squeeze 56 = .ok (.getfield 76, 3) := by decide +kernel
theorem dX11_squeeze_59 : decode cX11_squeeze 59 = .ok (.iload 4, 2) := by decide +kernel
theorem dX11_squeeze_61 : decode cX11_squeeze 61 = .ok (.aload_n 0, 1) := by decide +kernel
theorem dX11_squeeze_62 : decode cX11_squeeze 62 = .ok (.iload 4, 2) := by decide +kernel
theorem dX11_squeeze_64 : decode cX11_squeeze 64 = .ok (.invokevirtual 120, 3) := by decide +kernel
theorem dX11_squeeze_67 : decode cX11_squeeze 67 = .ok (.ifCond .eq 13, 3) := by decide +kernel
theorem dX11_squeeze_70 : decode cX11_squeeze 70 = .ok (.iload 5, 2) := by decide +kernel
theorem dX11_squeeze_72 : decode cX11_squeeze 72 = .ok (.ifCond .le 8, 3) := by decide +kernel
theorem dX11_squeeze_75 : decode cX11_squeeze 75 = .ok (.iload 5, 2) := by decide +kernel
theorem dX11_squeeze_77 : decode cX11_squeeze 77 = .ok (.goto 4, 3) := by decide +kernel
theorem dX11_squeeze_80 : decode cX11_squeeze 80 = .ok (.iconst 0, 1) := by decide +kernel
theorem dX11_squeeze_81 : decode cX11_squeeze 81 = .ok (.iastore, 1) := by decide +kernel
theorem dX11_squeeze_82 : decode cX11_squeeze 82 = .ok (.iinc 4 1, 3) := by decide +kernel
theorem dX11_squeeze_85 : decode cX11_squeeze 85 = .ok (.goto (-50), 3) := by decide +kernel
theorem dX11_squeeze_88 : decode cX11_squeeze 88 = .ok (.lconst 0, 1) := by decide +kernel
theorem dX11_squeeze_89 : decode cX11_squeeze 89 = .ok (.lstore 4, 2) := by decide +kernel
theorem dX11_squeeze_91 : decode cX11_squeeze 91 = .ok (.iload_n 3, 1) := by decide +kernel
theorem dX11_squeeze_92 : decode cX11_squeeze 92 = .ok (.ifCond .le 151, 3) := by decide +kernel
theorem dX11_squeeze_95 : decode cX11_squeeze 95 = .ok (.iconst (-1), 1) := by decide +kernel
theorem dX11_squeeze_96 : decode cX11_squeeze 96 = .ok (.istore 6, 2) := by decide +kernel
theorem dX11_squeeze_98 : decode cX11_squeeze 98 = .ok (.iconst 0, 1) := by decide +kernel
theorem dX11_squeeze_99 : decode cX11_squeeze 99 = .ok (.istore 7, 2) := by decide +kernel
theorem dX11_squeeze_101 : decode cX11_squeeze 101 = .ok (.iload 7, 2) := by decide +kernel
theorem dX11_squeeze_103 : decode cX11_squeeze 103 = .ok (.aload_n 0, 1) := by decide +kernel
theorem dX11_squeeze_104 : decode cX11_squeeze 104 = .ok (.getfield 14, 3) := by decide +kernel
theorem dX11_squeeze_107 : decode cX11_squeeze 107 = .ok (.iconst 1, 1) := by decide +kernel
theorem dX11_squeeze_108 : decode cX11_squeeze 108 = .ok (.iaload, 1) := by decide +kernel
theorem dX11_squeeze_109 : decode cX11_squeeze 109 = .ok (.if_icmp .ge 60, 3) := by decide +kernel
theorem dX11_squeeze_112 : decode cX11_squeeze 112 = .ok (.aload_n 0, 1) := by decide +kernel
theorem dX11_squeeze_113 : decode cX11_squeeze 113 = .ok (.getfield 76, 3) := by decide +kernel
theorem dX11_squeeze_116 : decode cX11_squeeze 116 = .ok (.iload 7, 2) := by decide +kernel
theorem dX11_squeeze_118 : decode cX11_squeeze 118 = .ok (.iaload, 1) := by decide +kernel
theorem dX11_squeeze_119 : decode cX11_squeeze 119 = .ok (.ifCond .le 44, 3) := by decide +kernel
theorem dX11_squeeze_122 : decode cX11_squeeze 122 = .ok (.iload 6, 2) := by decide +kernel
theorem dX11_squeeze_124 : decode cX11_squeeze 124 = .ok (.iconst (-1), 1) := by decide +kernel
theorem dX11_squeeze_125 : decode cX11_squeeze 125 = .ok (.if_icmp .eq 34, 3) := by decide +kernel
theorem dX11_squeeze_128 : decode cX11_squeeze 128 = .ok (.aload_n 0, 1) := by decide +kernel
theorem dX11_squeeze_129 : decode cX11_squeeze 129 = .ok (.getfield 14, 3) := by decide +kernel
theorem dX11_squeeze_132 : decode cX11_squeeze 132 = .ok (.bipush 124, 2) := by decide +kernel
theorem dX11_squeeze_134 : decode cX11_squeeze 134 = .ok (.iconst 5, 1) := by decide +kernel
theorem dX11_squeeze_135 : decode cX11_squeeze 135 = .ok (.iload 7, 2) := by decide +kernel
theorem dX11_squeeze_137 : decode cX11_squeeze 137 = .ok (.imul, 1) := by decide +kernel
theorem dX11_squeeze_138 : decode cX11_squeeze 138 = .ok (.iadd, 1) := by decide +kernel
theorem dX11_squeeze_139 : decode cX11_squeeze 139 = .ok (.iload_n 1, 1) := by decide +kernel
theorem dX11_squeeze_140 : decode cX11_squeeze 140 = .ok (.iadd, 1) := by decide +kernel
theorem dX11_squeeze_141 : decode cX11_squeeze 141 = .ok (.iaload, 1) := by decide +kernel
theorem dX11_squeeze_142 : decode cX11_squeeze 142 = .ok (.aload_n 0, 1) := by decide +kernel
theorem dX11_squeeze_143 : decode cX11_squeeze 143 = .ok (.getfield 14, 3) := by decide +kernel
theorem dX11_squeeze_146 : decode cX11_squeeze 146 = .ok (.bipush 124, 2) := by decide +kernel
theorem dX11_squeeze_148 : decode cX11_squeeze 148 = .ok (.iconst 5, 1) := by decide +kernel
theorem dX11_squeeze_149 : decode cX11_squeeze 149 = .ok (.iload 6, 2) := by decide +kernel
theorem dX11_squeeze_151 : decode cX11_squeeze 151 = .ok (.imul, 1) := by decide +kernel
theorem dX11_squeeze_152 : decode cX11_squeeze 152 = .ok (.iadd, 1) := by decide +kernel
theorem dX11_squeeze_153 : decode cX11_squeeze 153 = .ok (.iload_n 1, 1) := by decide +kernel
theorem dX11_squeeze_154 : decode cX11_squeeze 154 = .ok (.iadd, 1) := by decide +kernel
theorem dX11_squeeze_155 : decode cX11_squeeze 155 = .ok (.iaload, 1) := by decide +kernel
theorem dX11_squeeze_156 : decode cX11_squeeze 156 = .ok (.if_icmp .ge 7, 3) := by decide +kernel
theorem dX11_squeeze_159 : decode cX11_squeeze 159 = .ok (.iload 7, 2) := by decide +kernel
theorem dX11_squeeze_161 : decode cX11_squeeze 161 = .ok (.istore 6, 2) := by decide +kernel
theorem dX11_squeeze_163 : decode cX11_squeeze 163 = .ok (.iinc 7 1, 3) := by decide +kernel
theorem dX11_squeeze_166 : decode cX11_squeeze 166 = .ok (.goto (-65), 3) := by decide +kernel
theorem dX11_squeeze_169 : decode cX11_squeeze 169 = .ok (.iload 6, 2) := by decide +kernel
theorem dX11_squeeze_171 : decode cX11_squeeze 171 = .ok (.iconst (-1), 1) := by decide +kernel
theorem dX11_squeeze_172 : decode cX11_squeeze 172 = .ok (.if_icmp .ne 7, 3) := by decide +kernel
theorem dX11_squeeze_175 : decode cX11_squeeze 175 = .ok (.ldc2_w 196, 3) := by decide +kernel
theorem dX11_squeeze_178 : decode cX11_squeeze 178 = .ok (.lreturn, 1) := by decide +kernel
theorem dX11_squeeze_179 : decode cX11_squeeze 179 = .ok (.aload_n 0, 1) := by decide +kernel
theorem dX11_squeeze_180 : decode cX11_squeeze 180 = .ok (.getfield 76, 3) := by decide +kernel
theorem dX11_squeeze_183 : decode cX11_squeeze 183 = .ok (.iload 6, 2) := by decide +kernel
theorem dX11_squeeze_185 : decode cX11_squeeze 185 = .ok (.iaload, 1) := by decide +kernel
theorem dX11_squeeze_186 : decode cX11_squeeze 186 = .ok (.iload_n 3, 1) := by decide +kernel
theorem dX11_squeeze_187 : decode cX11_squeeze 187 = .ok (.if_icmp .ge 13, 3) := by decide +kernel
theorem dX11_squeeze_190 : decode cX11_squeeze 190 = .ok (.aload_n 0, 1) := by decide +kernel
theorem dX11_squeeze_191 : decode cX11_squeeze 191 = .ok (.getfield 76, 3) := by decide +kernel
theorem dX11_squeeze_194 : decode cX11_squeeze 194 = .ok (.iload 6, 2) := by decide +kernel
theorem dX11_squeeze_196 : decode cX11_squeeze 196 = .ok (.iaload, 1) := by decide +kernel
theorem dX11_squeeze_197 : decode cX11_squeeze 197 = .ok (.goto 4, 3) := by decide +kernel
theorem dX11_squeeze_200 : decode cX11_squeeze 200 = .ok (.iload_n 3, 1) := by decide +kernel
theorem dX11_squeeze_201 : decode cX11_squeeze 201 = .ok (.istore 7, 2) := by decide +kernel
theorem dX11_squeeze_203 : decode cX11_squeeze 203 = .ok (.lload 4, 2) := by decide +kernel
theorem dX11_squeeze_205 : decode cX11_squeeze 205 = .ok (.iload 7, 2) := by decide +kernel
theorem dX11_squeeze_207 : decode cX11_squeeze 207 = .ok (.i2l, 1) := by decide +kernel
theorem dX11_squeeze_208 : decode cX11_squeeze 208 = .ok (.aload_n 0, 1) := by decide +kernel
theorem dX11_squeeze_209 : decode cX11_squeeze 209 = .ok (.getfield 14, 3) := by decide +kernel
theorem dX11_squeeze_212 : decode cX11_squeeze 212 = .ok (.bipush 124, 2) := by decide +kernel
theorem dX11_squeeze_214 : decode cX11_squeeze 214 = .ok (.iconst 5, 1) := by decide +kernel
theorem dX11_squeeze_215 : decode cX11_squeeze 215 = .ok (.iload 6, 2) := by decide +kernel
theorem dX11_squeeze_217 : decode cX11_squeeze 217 = .ok (.imul, 1) := by decide +kernel
theorem dX11_squeeze_218 : decode cX11_squeeze 218 = .ok (.iadd, 1) := by decide +kernel
theorem dX11_squeeze_219 : decode cX11_squeeze 219 = .ok (.iload_n 1, 1) := by decide +kernel
theorem dX11_squeeze_220 : decode cX11_squeeze 220 = .ok (.iadd, 1) := by decide +kernel
theorem dX11_squeeze_221 : decode cX11_squeeze 221 = .ok (.iaload, 1) := by decide +kernel
theorem dX11_squeeze_222 : decode cX11_squeeze 222 = .ok (.i2l, 1) := by decide +kernel
theorem dX11_squeeze_223 : decode cX11_squeeze 223 = .ok (.lmul, 1) := by decide +kernel
theorem dX11_squeeze_224 : decode cX11_squeeze 224 = .ok (.ladd, 1) := by decide +kernel
theorem dX11_squeeze_225 : decode cX11_squeeze 225 = .ok (.lstore 4, 2) := by decide +kernel
theorem dX11_squeeze_227 : decode cX11_squeeze 227 = .ok (.iload_n 3, 1) := by decide +kernel
theorem dX11_squeeze_228 : decode cX11_squeeze 228 = .ok (.iload 7, 2) := by decide +kernel
theorem dX11_squeeze_230 : decode cX11_squeeze 230 = .ok (.isub, 1) := by decide +kernel
theorem dX11_squeeze_231 : decode cX11_squeeze 231 = .ok (.istore_n 3, 1) := by decide +kernel
theorem dX11_squeeze_232 : decode cX11_squeeze 232 = .ok (.aload_n 0, 1) := by decide +kernel
theorem dX11_squeeze_233 : decode cX11_squeeze 233 = .ok (.getfield 76, 3) := by decide +kernel
theorem dX11_squeeze_236 : decode cX11_squeeze 236 = .ok (.iload 6, 2) := by decide +kernel
theorem dX11_squeeze_238 : decode cX11_squeeze 238 = .ok (.iconst 0, 1) := by decide +kernel
theorem dX11_squeeze_239 : decode cX11_squeeze 239 = .ok (.iastore, 1) := by decide +kernel
theorem dX11_squeeze_240 : decode cX11_squeeze 240 = .ok (.goto (-149), 3) := by decide +kernel
theorem dX11_squeeze_243 : decode cX11_squeeze 243 = .ok (.lload 4, 2) := by decide +kernel
theorem dX11_squeeze_245 : decode cX11_squeeze 245 = .ok (.lreturn, 1) := by decide +kernel
theorem dX11_rolling_0 : decode cX11_rolling 0 = .ok (.iload_n 2, 1) := by decide +kernel
theorem dX11_rolling_1 : decode cX11_rolling 1 = .ok (.iconst 0, 1) := by decide +kernel
theorem dX11_rolling_2 : decode cX11_rolling 2 = .ok (.bipush 28, 2) := by decide +kernel
theorem dX11_rolling_4 : decode cX11_rolling 4 = .ok (.invokestatic 104, 3) := by decide +kernel
theorem dX11_rolling_7 : decode cX11_rolling 7 = .ok (.ifCond .eq 7, 3) := by decide +kernel
theorem dX11_rolling_10 : decode cX11_rolling 10 = .ok (.iload_n 1, 1) := by decide +kernel
theorem dX11_rolling_11 : decode cX11_rolling 11 = .ok (.ifCond .ge 10, 3) := by decide +kernel
theorem dX11_rolling_14 : decode cX11_rolling 14 = .ok (.aload_n 0, 1) := by decide +kernel
theorem dX11_rolling_15 : decode cX11_rolling 15 = .ok (.bipush (-7), 2) := by decide +kernel
theorem dX11_rolling_17 : decode cX11_rolling 17 = .ok (.invokevirtual 108, 3) := by decide +kernel
theorem dX11_rolling_20 : decode cX11_rolling 20 = .ok (.ireturn, 1) := by decide +kernel
theorem dX11_rolling_21 : decode cX11_rolling 21 = .ok (.iconst 0, 1) := by decide +kernel
theorem dX11_rolling_22 : decode cX11_rolling 22 = .ok (.istore_n 3, 1) := by decide +kernel
theorem dX11_rolling_23 : decode cX11_rolling 23 = .ok (.iload_n 3, 1) := by decide +kernel
theorem dX11_rolling_24 : decode cX11_rolling 24 = .ok (.bipush 12, 2) := by decide +kernel
theorem dX11_rolling_26 : decode cX11_rolling 26 = .ok (.if_icmp .ge 30, 3) := by decide +kernel
theorem dX11_rolling_29 : decode cX11_rolling 29 = .ok (.aload_n 0, 1) := by decide +kernel
theorem dX11_rolling_30 : decode cX11_rolling 30 = .ok (.getfield 85, 3) := by decide +kernel
theorem dX11_rolling_33 : decode cX11_rolling 33 = .ok (.iload_n 3, 1) := by decide +kernel
theorem dX11_rolling_34 : decode cX11_rolling 34 = .ok (.aload_n 0, 1) := by decide +kernel
theorem dX11_rolling_35 : decode cX11_rolling 35 = .ok (.getfield 18, 3) := by decide +kernel
theorem dX11_rolling_38 : decode cX11_rolling 38 = .ok (.iconst 0, 1) := by decide +kernel
theorem dX11_rolling_39 : decode cX11_rolling 39 = .ok (.iload_n 3, 1) := by decide +kernel
theorem dX11_rolling_40 : decode cX11_rolling 40 = .ok (.iadd, 1) := by decide +kernel
theorem dX11_rolling_41 : decode cX11_rolling 41 = .ok (.laload, 1) := by decide +kernel
theorem dX11_rolling_42 : decode cX11_rolling 42 = .ok (.lastore, 1) := by decide +kernel
theorem dX11_rolling_43 : decode cX11_rolling 43 = .ok (.aload_n 0, 1) := by decide +kernel
theorem dX11_rolling_44 : decode cX11_rolling 44 = .ok (.getfield 88, 3) := by decide +kernel
theorem dX11_rolling_47 : decode cX11_rolling 47 = .ok (.iload_n 3, 1) := by decide +kernel
theorem dX11_rolling_48 : decode cX11_rolling 48 = .ok (.iconst 0, 1) := by decide +kernel
theorem dX11_rolling_49 : decode cX11_rolling 49 = .ok (.bastore, 1) := by decide +kernel
theorem dX11_rolling_50 : decode cX11_rolling 50 = .ok (.iinc 3 1, 3) := by decide +kernel
theorem dX11_rolling_53 : decode cX11_rolling 53 = .ok (.goto (-30), 3) := by decide +kernel
theorem dX11_rolling_56 : decode cX11_rolling 56 = .ok (.iconst 0, 1) := by decide +kernel
theorem dX11_rolling_57 : decode cX11_rolling 57 = .ok (.istore_n 3, 1) := by decide +kernel
theorem dX11_rolling_58 : decode cX11_rolling 58 = .ok (.iload_n 3, 1) := by decide +kernel
theorem dX11_rolling_59 : decode cX11_rolling 59 = .ok (.bipush 60, 2) := by decide +kernel
theorem dX11_rolling_61 : decode cX11_rolling 61 = .ok (.if_icmp .ge 63, 3) := by decide +kernel
theorem dX11_rolling_64 : decode cX11_rolling 64 = .ok (.aload_n 0, 1) := by decide +kernel
theorem dX11_rolling_65 : decode cX11_rolling 65 = .ok (.getfield 92, 3) := by decide +kernel
theorem dX11_rolling_68 : decode cX11_rolling 68 = .ok (.iload_n 3, 1) := by decide +kernel
theorem dX11_rolling_69 : decode cX11_rolling 69 = .ok (.aload_n 0, 1) := by decide +kernel
theorem dX11_rolling_70 : decode cX11_rolling 70 = .ok (.iload_n 3, 1) := by decide +kernel
theorem dX11_rolling_71 : decode cX11_rolling 71 = .ok (.invokevirtual 133, 3) := by decide +kernel
theorem dX11_rolling_74 : decode cX11_rolling 74 = .ok (.ifCond .eq 38, 3) := by decide +kernel
theorem dX11_rolling_77 : decode cX11_rolling 77 = .ok (.aload_n 0, 1) := by decide +kernel
theorem dX11_rolling_78 : decode cX11_rolling 78 = .ok (.iload_n 3, 1) := by decide +kernel
theorem dX11_rolling_79 : decode cX11_rolling 79 = .ok (.bipush 7, 2) := by decide +kernel
theorem dX11_rolling_81 : decode cX11_rolling 81 = .ok (.invokevirtual 123, 3) := by decide +kernel
theorem dX11_rolling_84 : decode cX11_rolling 84 = .ok (.iload_n 1, 1) := by decide +kernel
theorem dX11_rolling_85 : decode cX11_rolling 85 = .ok (.if_icmp .ne 27, 3) := by decide +kernel
theorem dX11_rolling_88 : decode cX11_rolling 88 = .ok (.aload_n 0, 1) := by decide +kernel
theorem dX11_rolling_89 : decode cX11_rolling 89 = .ok (.iload_n 3, 1) := by decide +kernel
theorem dX11_rolling_90 : decode cX11_rolling 90 = .ok (.bipush 6, 2) := by decide +kernel
theorem dX11_rolling_92 : decode cX11_rolling 92 = .ok (.invokevirtual 123, 3) := by decide +kernel
theorem dX11_rolling_95 : decode cX11_rolling 95 = .ok (.iload_n 2, 1) := by decide +kernel
theorem dX11_rolling_96 : decode cX11_rolling 96 = .ok (.iadd, 1) := by decide +kernel
theorem dX11_rolling_97 : decode cX11_rolling 97 = .ok (.i2l, 1) := by decide +kernel
theorem dX11_rolling_98 : decode cX11_rolling 98 = .ok (.ldc2_w 407, 3) := by decide +kernel
theorem dX11_rolling_101 : decode cX11_rolling 101 = .ok (.iload_n 1, 1) := by decide +kernel
theorem dX11_rolling_102 : decode cX11_rolling 102 = .ok (.i2l, 1) := by decide +kernel
theorem dX11_rolling_103 : decode cX11_rolling 103 = .ok (.lmul, 1) := by decide +kernel
theorem dX11_rolling_104 : decode cX11_rolling 104 = .ok (.ldc2_w 409, 3) := by decide +kernel
theorem dX11_rolling_107 : decode cX11_rolling 107 = .ok (.ladd, 1) := by decide +kernel
theorem dX11_rolling_108 : decode cX11_rolling 108 = .ok (.lcmp, 1) := by decide +kernel
theorem dX11_rolling_109 : decode cX11_rolling 109 = .ok (.ifCond .le 7, 3) := by decide +kernel
theorem dX11_rolling_112 : decode cX11_rolling 112 = .ok (.iconst 1, 1) := by decide +kernel
theorem dX11_rolling_113 : decode cX11_rolling 113 = .ok (.goto 4, 3) := by decide +kernel
theorem dX11_rolling_116 : decode cX11_rolling 116 = .ok (.iconst 0, 1) := by decide +kernel
theorem dX11_rolling_117 : decode cX11_rolling 117 = .ok (.bastore, 1) := by decide +kernel
theorem dX11_rolling_118 : decode cX11_rolling 118 = .ok (.iinc 3 1, 3) := by decide +kernel
theorem dX11_rolling_121 : decode cX11_rolling 121 = .ok (.goto (-63), 3) := by decide +kernel
theorem dX11_rolling_124 : decode cX11_rolling 124 = .ok (.iconst 0, 1) := by decide +kernel
theorem dX11_rolling_125 : decode cX11_rolling 125 = .ok (.istore_n 3, 1) := by decide +kernel
theorem dX11_rolling_126 : decode cX11_rolling 126 = .ok (.aload_n 0, 1) := by decide +kernel
theorem dX11_rolling_127 : decode cX11_rolling 127 = .ok (.invokevirtual 411, 3) := by decide +kernel
theorem dX11_rolling_130 : decode cX11_rolling 130 = .ok (.istore 4, 2) := by decide +kernel
theorem dX11_rolling_132 : decode cX11_rolling 132 = .ok (.iload 4, 2) := by decide +kernel
theorem dX11_rolling_134 : decode cX11_rolling 134 = .ok (.iconst (-1), 1) := by decide +kernel
theorem dX11_rolling_135 : decode cX11_rolling 135 = .ok (.if_icmp .eq 128, 3) := by decide +kernel
theorem dX11_rolling_138 : decode cX11_rolling 138 = .ok (.aload_n 0, 1) := by decide +kernel
theorem dX11_rolling_139 : decode cX11_rolling 139 = .ok (.getfield 92, 3) := by decide +kernel
theorem dX11_rolling_142 : decode cX11_rolling 142 = .ok (.iload 4, 2) := by decide +kernel
theorem dX11_rolling_144 : decode cX11_rolling 144 = .ok (.iconst 1, 1) := by decide +kernel
theorem dX11_rolling_145 : decode cX11_rolling 145 = .ok (.bastore, 1) := by decide +kernel
theorem dX11_rolling_146 : decode cX11_rolling 146 = .ok (.aload_n 0, 1) := by decide +kernel
theorem dX11_rolling_147 : decode cX11_rolling 147 = .ok (.iload 4, 2) := by decide +kernel
theorem dX11_rolling_149 : decode cX11_rolling 149 = .ok (.iconst 2, 1) := by decide +kernel
theorem dX11_rolling_150 : decode cX11_rolling 150 = .ok (.invokevirtual 123, 3) := by decide +kernel
theorem dX11_rolling_153 : decode cX11_rolling 153 = .ok (.istore 5, 2) := by decide +kernel
theorem dX11_rolling_155 : decode cX11_rolling 155 = .ok (.aload_n 0, 1) := by decide +kernel
theorem dX11_rolling_156 : decode cX11_rolling 156 = .ok (.iload 4, 2) := by decide +kernel
theorem dX11_rolling_158 : decode cX11_rolling 158 = .ok (.iconst 1, 1) := by decide +kernel
theorem dX11_rolling_159 : decode cX11_rolling 159 = .ok (.invokevirtual 123, 3) := by decide +kernel
theorem dX11_rolling_162 : decode cX11_rolling 162 = .ok (.istore 6, 2) := by decide +kernel
theorem dX11_rolling_164 : decode cX11_rolling 164 = .ok (.aload_n 0, 1) := by decide +kernel
theorem dX11_rolling_165 : decode cX11_rolling 165 = .ok (.iload 4, 2) := by decide +kernel
theorem dX11_rolling_167 : decode cX11_rolling 167 = .ok (.iconst 4, 1) := by decide +kernel
theorem dX11_rolling_168 : decode cX11_rolling 168 = .ok (.invokevirtual 123, 3) := by decide +kernel
theorem dX11_rolling_171 : decode cX11_rolling 171 = .ok (.i2l, 1) := by decide +kernel
theorem dX11_rolling_172 : decode cX11_rolling 172 = .ok (.aload_n 0, 1) := by decide +kernel
theorem dX11_rolling_173 : decode cX11_rolling 173 = .ok (.iload 4, 2) := by decide +kernel
theorem dX11_rolling_175 : decode cX11_rolling 175 = .ok (.iconst 5, 1) := by decide +kernel
theorem dX11_rolling_176 : decode cX11_rolling 176 = .ok (.invokevirtual 123, 3) := by decide +kernel
theorem dX11_rolling_179 : decode cX11_rolling 179 = .ok (.i2l, 1) := by decide +kernel
theorem dX11_rolling_180 : decode cX11_rolling 180 = .ok (.lmul, 1) := by decide +kernel
theorem dX11_rolling_181 : decode cX11_rolling 181 = .ok (.lstore 7, 2) := by decide +kernel
theorem dX11_rolling_183 : decode cX11_rolling 183 = .ok (.aload_n 0, 1) := by decide +kernel
theorem dX11_rolling_184 : decode cX11_rolling 184 = .ok (.getfield 88, 3) := by decide +kernel
theorem dX11_rolling_187 : decode cX11_rolling 187 = .ok (.iload 5, 2) := by decide +kernel
theorem dX11_rolling_189 : decode cX11_rolling 189 = .ok (.baload, 1) := by decide +kernel
theorem dX11_rolling_190 : decode cX11_rolling 190 = .ok (.ifCond .ne 64, 3) := by decide +kernel
theorem dX11_rolling_193 : decode cX11_rolling 193 = .ok (.aload_n 0, 1) := by decide +kernel
theorem dX11_rolling_194 : decode cX11_rolling 194 = .ok (.getfield 88, 3) := by decide +kernel
theorem dX11_rolling_197 : decode cX11_rolling 197 = .ok (.iload 6, 2) := by decide +kernel
theorem dX11_rolling_199 : decode cX11_rolling 199 = .ok (.baload, 1) := by decide +kernel
theorem dX11_rolling_200 : decode cX11_rolling 200 = .ok (.ifCond .ne 54, 3) := by decide +kernel
theorem dX11_rolling_203 : decode cX11_rolling 203 = .ok (.aload_n 0, 1) := by decide +kernel
theorem dX11_rolling_204 : decode cX11_rolling 204 = .ok (.getfield 85, 3) := by decide +kernel
theorem dX11_rolling_207 : decode cX11_rolling 207 = .ok (.iload 5, 2) := by decide +kernel
theorem dX11_rolling_209 : decode cX11_rolling 209 = .ok (.laload, 1) := by decide +kernel
theorem dX11_rolling_210 : decode cX11_rolling 210 = .ok (.lload 7, 2) := by decide +kernel
theorem dX11_rolling_212 : decode cX11_rolling 212 = .ok (.lcmp, 1) := by decide +kernel
theorem dX11_rolling_213 : decode cX11_rolling 213 = .ok (.ifCond .lt 30, 3) := by decide +kernel
theorem dX11_rolling_216 : decode cX11_rolling 216 = .ok (.aload_n 0, 1) := by decide +kernel
theorem dX11_rolling_217 : decode cX11_rolling 217 = .ok (.getfield 85, 3) := by decide +kernel
theorem dX11_rolling_220 : decode cX11_rolling 220 = .ok (.iload 5, 2) := by decide +kernel
theorem dX11_rolling_222 : decode cX11_rolling 222 = .ok (.dup2, 1) := by decide +kernel
theorem dX11_rolling_223 : decode cX11_rolling 223 = .ok (.laload, 1) := by decide +kernel
theorem dX11_rolling_224 : decode cX11_rolling 224 = .ok (.lload 7, 2) := by decide +kernel
theorem dX11_rolling_226 : decode cX11_rolling 226 = .ok (.lsub, 1) := by decide +kernel
theorem dX11_rolling_227 : decode cX11_rolling 227 = .ok (.lastore, 1) := by decide +kernel
theorem dX11_rolling_228 : decode cX11_rolling 228 = .ok (.aload_n 0, 1) := by decide +kernel
theorem dX11_rolling_229 : decode cX11_rolling 229 = .ok (.getfield 85, 3) := by decide +kernel
theorem dX11_rolling_232 : decode cX11_rolling 232 = .ok (.iload 6, 2) := by decide +kernel
theorem dX11_rolling_234 : decode cX11_rolling 234 = .ok (.dup2, 1) := by decide +kernel
theorem dX11_rolling_235 : decode cX11_rolling 235 = .ok (.laload, 1) := by decide +kernel
theorem dX11_rolling_236 : decode cX11_rolling 236 = .ok (.lload 7, 2) := by decide +kernel
theorem dX11_rolling_238 : decode cX11_rolling 238 = .ok (.ladd, 1) := by decide +kernel
theorem dX11_rolling_239 : decode cX11_rolling 239 = .ok (.lastore, 1) := by decide +kernel
theorem dX11_rolling_240 : decode cX11_rolling 240 = .ok (.goto 14, 3) := by decide +kernel
theorem dX11_rolling_243 : decode cX11_rolling 243 = .ok (.aload_n 0, 1) := by decide +kernel
theorem dX11_rolling_244 : decode cX11_rolling 244 = .ok (.getfield 88, 3) := by decide +kernel
theorem dX11_rolling_247 : decode cX11_rolling 247 = .ok (.iload 5, 2) := by decide +kernel
theorem dX11_rolling_249 : decode cX11_rolling 249 = .ok (.iconst 1, 1) := by decide +kernel
theorem dX11_rolling_250 : decode cX11_rolling 250 = .ok (.bastore, 1) := by decide +kernel
theorem dX11_rolling_251 : decode cX11_rolling 251 = .ok (.iinc 3 1, 3) := by decide +kernel
theorem dX11_rolling_254 : decode cX11_rolling 254 = .ok (.aload_n 0, 1) := by decide +kernel
theorem dX11_rolling_255 : decode cX11_rolling 255 = .ok (.invokevirtual 411, 3) := by decide +kernel
theorem dX11_rolling_258 : decode cX11_rolling 258 = .ok (.istore 4, 2) := by decide +kernel
theorem dX11_rolling_260 : decode cX11_rolling 260 = .ok (.goto (-128), 3) := by decide +kernel
theorem dX11_rolling_263 : decode cX11_rolling 263 = .ok (.iload_n 3, 1) := by decide +kernel
theorem dX11_rolling_264 : decode cX11_rolling 264 = .ok (.ireturn, 1) := by decide +kernel
theorem dX11_firstOf_0 : decode cX11_firstOf 0 = .ok (.iconst (-1), 1) := by decide +kernel
theorem dX11_firstOf_1 : decode cX11_firstOf 1 = .ok (.istore_n 1, 1) := by decide +kernel
theorem dX11_firstOf_2 : decode cX11_firstOf 2 = .ok (.iconst 0, 1) := by decide +kernel
theorem dX11_firstOf_3 : decode cX11_firstOf 3 = .ok (.istore_n 2, 1) := by decide +kernel
theorem dX11_firstOf_4 : decode cX11_firstOf 4 = .ok (.iload_n 2, 1) := by decide +kernel
theorem dX11_firstOf_5 : decode cX11_firstOf 5 = .ok (.bipush 60, 2) := by decide +kernel
theorem dX11_firstOf_7 : decode cX11_firstOf 7 = .ok (.if_icmp .ge 42, 3) := by decide +kernel
theorem dX11_firstOf_10 : decode cX11_firstOf 10 = .ok (.aload_n 0, 1) := by decide +kernel
theorem dX11_firstOf_11 : decode cX11_firstOf 11 = .ok (.getfield 92, 3) := by decide +kernel
theorem dX11_firstOf_14 : decode cX11_firstOf 14 = .ok (.iload_n 2, 1) := by decide +kernel
theorem dX11_firstOf_15 : decode cX11_firstOf 15 = .ok (.baload, 1) := by decide +kernel
theorem dX11_firstOf_16 : decode cX11_firstOf 16 = .ok (.ifCond .ne 27, 3) := by decide +kernel
theorem dX11_firstOf_19 : decode cX11_firstOf 19 = .ok (.iload_n 1, 1) := by decide +kernel
theorem dX11_firstOf_20 : decode cX11_firstOf 20 = .ok (.iconst (-1), 1) := by decide +kernel
theorem dX11_firstOf_21 : decode cX11_firstOf 21 = .ok (.if_icmp .eq 20, 3) := by decide +kernel
theorem dX11_firstOf_24 : decode cX11_firstOf 24 = .ok (.aload_n 0, 1) := by decide +kernel
theorem dX11_firstOf_25 : decode cX11_firstOf 25 = .ok (.iload_n 2, 1) := by decide +kernel
theorem dX11_firstOf_26 : decode cX11_firstOf 26 = .ok (.bipush 6, 2) := by decide +kernel
theorem dX11_firstOf_28 : decode cX11_firstOf 28 = .ok (.invokevirtual 123, 3) := by decide +kernel
theorem dX11_firstOf_31 : decode cX11_firstOf 31 = .ok (.aload_n 0, 1) := by decide +kernel
theorem dX11_firstOf_32 : decode cX11_firstOf 32 = .ok (.iload_n 1, 1) := by decide +kernel
theorem dX11_firstOf_33 : decode cX11_firstOf 33 = .ok (.bipush 6, 2) := by decide +kernel
theorem dX11_firstOf_35 : decode cX11_firstOf 35 = .ok (.invokevirtual 123, 3) := by decide +kernel
theorem dX11_firstOf_38 : decode cX11_firstOf 38 = .ok (.if_icmp .ge 5, 3) := by decide +kernel
theorem dX11_firstOf_41 : decode cX11_firstOf 41 = .ok (.iload_n 2, 1) := by decide +kernel
theorem dX11_firstOf_42 : decode cX11_firstOf 42 = .ok (.istore_n 1, 1) := by decide +kernel
theorem dX11_firstOf_43 : decode cX11_firstOf 43 = .ok (.iinc 2 1, 3) := by decide +kernel
theorem dX11_firstOf_46 : decode cX11_firstOf 46 = .ok (.goto (-42), 3) := by decide +kernel
theorem dX11_firstOf_49 : decode cX11_firstOf 49 = .ok (.iload_n 1, 1) := by decide +kernel
theorem dX11_firstOf_50 : decode cX11_firstOf 50 = .ok (.ireturn, 1) := by decide +kernel
theorem dX11_clearing_0 : decode cX11_clearing 0 = .ok (.iload_n 1, 1) := by decide +kernel
theorem dX11_clearing_1 : decode cX11_clearing 1 = .ok (.ifCond .ge 10, 3) := by decide +kernel
theorem dX11_clearing_4 : decode cX11_clearing 4 = .ok (.aload_n 0, 1) := by decide +kernel
theorem dX11_clearing_5 : decode cX11_clearing 5 = .ok (.bipush (-7), 2) := by decide +kernel
theorem dX11_clearing_7 : decode cX11_clearing 7 = .ok (.invokevirtual 108, 3) := by decide +kernel
theorem dX11_clearing_10 : decode cX11_clearing 10 = .ok (.ireturn, 1) := by decide +kernel
theorem dX11_clearing_11 : decode cX11_clearing 11 = .ok (.iconst 0, 1) := by decide +kernel
theorem dX11_clearing_12 : decode cX11_clearing 12 = .ok (.istore_n 2, 1) := by decide +kernel
theorem dX11_clearing_13 : decode cX11_clearing 13 = .ok (.iconst 0, 1) := by decide +kernel
theorem dX11_clearing_14 : decode cX11_clearing 14 = .ok (.istore_n 3, 1) := by decide +kernel
theorem dX11_clearing_15 : decode cX11_clearing 15 = .ok (.iload_n 3, 1) := by decide +kernel
theorem dX11_clearing_16 : decode cX11_clearing 16 = .ok (.aload_n 0, 1) := by decide +kernel
theorem dX11_clearing_17 : decode cX11_clearing 17 = .ok (.getfield 14, 3) := by decide +kernel
theorem dX11_clearing_20 : decode cX11_clearing 20 = .ok (.iconst 1, 1) := by decide +kernel
theorem dX11_clearing_21 : decode cX11_clearing 21 = .ok (.iaload, 1) := by decide +kernel
theorem dX11_clearing_22 : decode cX11_clearing 22 = .ok (.if_icmp .ge 137, 3) := by decide +kernel
theorem dX11_clearing_25 : decode cX11_clearing 25 = .ok (.lconst 0, 1) := by decide +kernel
theorem dX11_clearing_26 : decode cX11_clearing 26 = .ok (.lstore 4, 2) := by decide +kernel
theorem dX11_clearing_28 : decode cX11_clearing 28 = .ok (.iconst 0, 1) := by decide +kernel
theorem dX11_clearing_29 : decode cX11_clearing 29 = .ok (.istore 6, 2) := by decide +kernel
theorem dX11_clearing_31 : decode cX11_clearing 31 = .ok (.iload 6, 2) := by decide +kernel
theorem dX11_clearing_33 : decode cX11_clearing 33 = .ok (.bipush 60, 2) := by decide +kernel
theorem dX11_clearing_35 : decode cX11_clearing 35 = .ok (.if_icmp .ge 96, 3) := by decide +kernel
theorem dX11_clearing_38 : decode cX11_clearing 38 = .ok (.aload_n 0, 1) := by decide +kernel
theorem dX11_clearing_39 : decode cX11_clearing 39 = .ok (.iload 6, 2) := by decide +kernel
theorem dX11_clearing_41 : decode cX11_clearing 41 = .ok (.invokevirtual 133, 3) := by decide +kernel
theorem dX11_clearing_44 : decode cX11_clearing 44 = .ok (.ifCond .eq 81, 3) := by decide +kernel
theorem dX11_clearing_47 : decode cX11_clearing 47 = .ok (.aload_n 0, 1) := by decide +kernel
theorem dX11_clearing_48 : decode cX11_clearing 48 = .ok (.iload 6, 2) := by decide +kernel
theorem dX11_clearing_50 : decode cX11_clearing 50 = .ok (.bipush 7, 2) := by decide +kernel
theorem dX11_clearing_52 : decode cX11_clearing 52 = .ok (.invokevirtual 123, 3) := by decide +kernel
theorem dX11_clearing_55 : decode cX11_clearing 55 = .ok (.iload_n 1, 1) := by decide +kernel
theorem dX11_clearing_56 : decode cX11_clearing 56 = .ok (.if_icmp .eq 6, 3) := by decide +kernel
theorem dX11_clearing_59 : decode cX11_clearing 59 = .ok (.goto 66, 3) := by decide +kernel
theorem dX11_clearing_62 : decode cX11_clearing 62 = .ok (.aload_n 0, 1) := by decide +kernel
theorem dX11_clearing_63 : decode cX11_clearing 63 = .ok (.iload 6, 2) := by decide +kernel
theorem dX11_clearing_65 : decode cX11_clearing 65 = .ok (.iconst 4, 1) := by decide +kernel
theorem dX11_clearing_66 : decode cX11_clearing 66 = .ok (.invokevirtual 123, 3) := by decide +kernel
theorem dX11_clearing_69 : decode cX11_clearing 69 = .ok (.i2l, 1) := by decide +kernel
theorem dX11_clearing_70 : decode cX11_clearing 70 = .ok (.aload_n 0, 1) := by decide +kernel
theorem dX11_clearing_71 : decode cX11_clearing 71 = .ok (.iload 6, 2) := by decide +kernel
theorem dX11_clearing_73 : decode cX11_clearing 73 = .ok (.iconst 5, 1) := by decide +kernel
theorem dX11_clearing_74 : decode cX11_clearing 74 = .ok (.invokevirtual 123, 3) := by decide +kernel
theorem dX11_clearing_77 : decode cX11_clearing 77 = .ok (.i2l, 1) := by decide +kernel
theorem dX11_clearing_78 : decode cX11_clearing 78 = .ok (.lmul, 1) := by decide +kernel
theorem dX11_clearing_79 : decode cX11_clearing 79 = .ok (.lstore 7, 2) := by decide +kernel
theorem dX11_clearing_81 : decode cX11_clearing 81 = .ok (.lload 4, 2) := by decide +kernel
theorem dX11_clearing_83 : decode cX11_clearing 83 = .ok (.aload_n 0, 1) := by decide +kernel
theorem dX11_clearing_84 : decode cX11_clearing 84 = .ok (.iload 6, 2) := by decide +kernel
theorem dX11_clearing_86 : decode cX11_clearing 86 = .ok (.iconst 2, 1) := by decide +kernel
theorem dX11_clearing_87 : decode cX11_clearing 87 = .ok (.invokevirtual 123, 3) := by decide +kernel
theorem dX11_clearing_90 : decode cX11_clearing 90 = .ok (.iload_n 3, 1) := by decide +kernel
theorem dX11_clearing_91 : decode cX11_clearing 91 = .ok (.if_icmp .ne 8, 3) := by decide +kernel
theorem dX11_clearing_94 : decode cX11_clearing 94 = .ok (.lload 7, 2) := by decide +kernel
theorem dX11_clearing_96 : decode cX11_clearing 96 = .ok (.goto 4, 3) := by decide +kernel
theorem dX11_clearing_99 : decode cX11_clearing 99 = .ok (.lconst 0, 1) := by decide +kernel
theorem dX11_clearing_100 : decode cX11_clearing 100 = .ok (.ladd, 1) := by decide +kernel
theorem dX11_clearing_101 : decode cX11_clearing 101 = .ok (.lstore 4, 2) := by decide +kernel
theorem dX11_clearing_103 : decode cX11_clearing 103 = .ok (.lload 4, 2) := by decide +kernel
theorem dX11_clearing_105 : decode cX11_clearing 105 = .ok (.aload_n 0, 1) := by decide +kernel
theorem dX11_clearing_106 : decode cX11_clearing 106 = .ok (.iload 6, 2) := by decide +kernel
theorem dX11_clearing_108 : decode cX11_clearing 108 = .ok (.iconst 1, 1) := by decide +kernel
theorem dX11_clearing_109 : decode cX11_clearing 109 = .ok (.invokevirtual 123, 3) := by decide +kernel
theorem dX11_clearing_112 : decode cX11_clearing 112 = .ok (.iload_n 3, 1) := by decide +kernel
theorem dX11_clearing_113 : decode cX11_clearing 113 = .ok (.if_icmp .ne 8, 3) := by decide +kernel
theorem dX11_clearing_116 : decode cX11_clearing 116 = .ok (.lload 7, 2) := by decide +kernel
theorem dX11_clearing_118 : decode cX11_clearing 118 = .ok (.goto 4, 3) := by decide +kernel
theorem dX11_clearing_121 : decode cX11_clearing 121 = .ok (.lconst 0, 1) := by decide +kernel
theorem dX11_clearing_122 : decode cX11_clearing 122 = .ok (.lsub, 1) := by decide +kernel
theorem dX11_clearing_123 : decode cX11_clearing 123 = .ok (.lstore 4, 2) := by decide +kernel
theorem dX11_clearing_125 : decode cX11_clearing 125 = .ok (.iinc 6 1, 3) := by decide +kernel
theorem dX11_clearing_128 : decode cX11_clearing 128 = .ok (.goto (-97), 3) := by decide +kernel
theorem dX11_clearing_131 : decode cX11_clearing 131 = .ok (.iload_n 2, 1) := by decide +kernel
theorem dX11_clearing_132 : decode cX11_clearing 132 = .ok (.aload_n 0, 1) := by decide +kernel
theorem dX11_clearing_133 : decode cX11_clearing 133 = .ok (.getfield 18, 3) := by decide +kernel
theorem dX11_clearing_136 : decode cX11_clearing 136 = .ok (.iconst 0, 1) := by decide +kernel
theorem dX11_clearing_137 : decode cX11_clearing 137 = .ok (.iload_n 3, 1) := by decide +kernel
theorem dX11_clearing_138 : decode cX11_clearing 138 = .ok (.iadd, 1) := by decide +kernel
theorem dX11_clearing_139 : decode cX11_clearing 139 = .ok (.laload, 1) := by decide +kernel
theorem dX11_clearing_140 : decode cX11_clearing 140 = .ok (.lload 4, 2) := by decide +kernel
theorem dX11_clearing_142 : decode cX11_clearing 142 = .ok (.lcmp, 1) := by decide +kernel
theorem dX11_clearing_143 : decode cX11_clearing 143 = .ok (.ifCond .ge 7, 3) := by decide +kernel
theorem dX11_clearing_146 : decode cX11_clearing 146 = .ok (.iconst 1, 1) := by decide +kernel
theorem dX11_clearing_147 : decode cX11_clearing 147 = .ok (.goto 4, 3) := by decide +kernel
theorem dX11_clearing_150 : decode cX11_clearing 150 = .ok (.iconst 0, 1) := by decide +kernel
theorem dX11_clearing_151 : decode cX11_clearing 151 = .ok (.iadd, 1) := by decide +kernel
theorem dX11_clearing_152 : decode cX11_clearing 152 = .ok (.istore_n 2, 1) := by decide +kernel
theorem dX11_clearing_153 : decode cX11_clearing 153 = .ok (.iinc 3 1, 3) := by decide +kernel
theorem dX11_clearing_156 : decode cX11_clearing 156 = .ok (.goto (-141), 3) := by decide +kernel
theorem dX11_clearing_159 : decode cX11_clearing 159 = .ok (.iload_n 2, 1) := by decide +kernel
theorem dX11_clearing_160 : decode cX11_clearing 160 = .ok (.ireturn, 1) := by decide +kernel
theorem dX11_manyOf_0 : decode cX11_manyOf 0 = .ok (.iconst 0, 1) := by decide +kernel
theorem dX11_manyOf_1 : decode cX11_manyOf 1 = .ok (.istore_n 2, 1) := by decide +kernel
theorem dX11_manyOf_2 : decode cX11_manyOf 2 = .ok (.iconst 0, 1) := by decide +kernel
theorem dX11_manyOf_3 : decode cX11_manyOf 3 = .ok (.istore_n 3, 1) := by decide +kernel
theorem dX11_manyOf_4 : decode cX11_manyOf 4 = .ok (.iload_n 3, 1) := by decide +kernel
theorem dX11_manyOf_5 : decode cX11_manyOf 5 = .ok (.bipush 60, 2) := by decide +kernel
theorem dX11_manyOf_7 : decode cX11_manyOf 7 = .ok (.if_icmp .ge 38, 3) := by decide +kernel
theorem dX11_manyOf_10 : decode cX11_manyOf 10 = .ok (.iload_n 2, 1) := by decide +kernel
theorem dX11_manyOf_11 : decode cX11_manyOf 11 = .ok (.aload_n 0, 1) := by decide +kernel
theorem dX11_manyOf_12 : decode cX11_manyOf 12 = .ok (.iload_n 3, 1) := by decide +kernel
theorem dX11_manyOf_13 : decode cX11_manyOf 13 = .ok (.iconst 0, 1) := by decide +kernel
theorem dX11_manyOf_14 : decode cX11_manyOf 14 = .ok (.invokevirtual 123, 3) := by decide +kernel
theorem dX11_manyOf_17 : decode cX11_manyOf 17 = .ok (.iconst 1, 1) := by decide +kernel
theorem dX11_manyOf_18 : decode cX11_manyOf 18 = .ok (.if_icmp .ne 18, 3) := by decide +kernel
theorem dX11_manyOf_21 : decode cX11_manyOf 21 = .ok (.aload_n 0, 1) := by decide +kernel
theorem dX11_manyOf_22 : decode cX11_manyOf 22 = .ok (.iload_n 3, 1) := by decide +kernel
theorem dX11_manyOf_23 : decode cX11_manyOf 23 = .ok (.bipush 8, 2) := by decide +kernel
theorem dX11_manyOf_25 : decode cX11_manyOf 25 = .ok (.invokevirtual 123, 3) := by decide +kernel
theorem dX11_manyOf_28 : decode cX11_manyOf 28 = .ok (.iload_n 1, 1) := by decide +kernel
theorem dX11_manyOf_29 : decode cX11_manyOf 29 = .ok (.if_icmp .ne 7, 3) := by decide +kernel
theorem dX11_manyOf_32 : decode cX11_manyOf 32 = .ok (.iconst 1, 1) := by decide +kernel
theorem dX11_manyOf_33 : decode cX11_manyOf 33 = .ok (.goto 4, 3) := by decide +kernel
theorem dX11_manyOf_36 : decode cX11_manyOf 36 = .ok (.iconst 0, 1) := by decide +kernel
theorem dX11_manyOf_37 : decode cX11_manyOf 37 = .ok (.iadd, 1) := by decide +kernel
theorem dX11_manyOf_38 : decode cX11_manyOf 38 = .ok (.istore_n 2, 1) := by decide +kernel
theorem dX11_manyOf_39 : decode cX11_manyOf 39 = .ok (.iinc 3 1, 3) := by decide +kernel
theorem dX11_manyOf_42 : decode cX11_manyOf 42 = .ok (.goto (-38), 3) := by decide +kernel
theorem dX11_manyOf_45 : decode cX11_manyOf 45 = .ok (.iload_n 2, 1) := by decide +kernel
theorem dX11_manyOf_46 : decode cX11_manyOf 46 = .ok (.ireturn, 1) := by decide +kernel
theorem dX11_count_0 : decode cX11_count 0 = .ok (.iload_n 1, 1) := by decide +kernel
theorem dX11_count_1 : decode cX11_count 1 = .ok (.tableswitch 198 0 15 #[79, 86, 96, 106, 113, 120, 126, 132, 138, 144, 151, 158, 163, 175, 183, 191], 79) := by decide +kernel
theorem dX11_count_80 : decode cX11_count 80 = .ok (.aload_n 0, 1) := by decide +kernel
theorem dX11_count_81 : decode cX11_count 81 = .ok (.getfield 14, 3) := by decide +kernel
theorem dX11_count_84 : decode cX11_count 84 = .ok (.iconst 0, 1) := by decide +kernel
theorem dX11_count_85 : decode cX11_count 85 = .ok (.iaload, 1) := by decide +kernel
theorem dX11_count_86 : decode cX11_count 86 = .ok (.ireturn, 1) := by decide +kernel
theorem dX11_count_87 : decode cX11_count 87 = .ok (.aload_n 0, 1) := by decide +kernel
theorem dX11_count_88 : decode cX11_count 88 = .ok (.getfield 14, 3) := by decide +kernel
theorem dX11_count_91 : decode cX11_count 91 = .ok (.iconst 0, 1) := by decide +kernel
theorem dX11_count_92 : decode cX11_count 92 = .ok (.iaload, 1) := by decide +kernel
theorem dX11_count_93 : decode cX11_count 93 = .ok (.bipush 14, 2) := by decide +kernel
theorem dX11_count_95 : decode cX11_count 95 = .ok (.irem, 1) := by decide +kernel
theorem dX11_count_96 : decode cX11_count 96 = .ok (.ireturn, 1) := by decide +kernel
theorem dX11_count_97 : decode cX11_count 97 = .ok (.aload_n 0, 1) := by decide +kernel
theorem dX11_count_98 : decode cX11_count 98 = .ok (.getfield 14, 3) := by decide +kernel
theorem dX11_count_101 : decode cX11_count 101 = .ok (.iconst 0, 1) := by decide +kernel
theorem dX11_count_102 : decode cX11_count 102 = .ok (.iaload, 1) := by decide +kernel
theorem dX11_count_103 : decode cX11_count 103 = .ok (.bipush 14, 2) := by decide +kernel
theorem dX11_count_105 : decode cX11_count 105 = .ok (.idiv, 1) := by decide +kernel
theorem dX11_count_106 : decode cX11_count 106 = .ok (.ireturn, 1) := by decide +kernel
theorem dX11_count_107 : decode cX11_count 107 = .ok (.aload_n 0, 1) := by decide +kernel
theorem dX11_count_108 : decode cX11_count 108 = .ok (.getfield 14, 3) := by decide +kernel
theorem dX11_count_111 : decode cX11_count 111 = .ok (.iconst 1, 1) := by decide +kernel
theorem dX11_count_112 : decode cX11_count 112 = .ok (.iaload, 1) := by decide +kernel
theorem dX11_count_113 : decode cX11_count 113 = .ok (.ireturn, 1) := by decide +kernel
theorem dX11_count_114 : decode cX11_count 114 = .ok (.aload_n 0, 1) := by decide +kernel
theorem dX11_count_115 : decode cX11_count 115 = .ok (.getfield 14, 3) := by decide +kernel
theorem dX11_count_118 : decode cX11_count 118 = .ok (.iconst 2, 1) := by decide +kernel
theorem dX11_count_119 : decode cX11_count 119 = .ok (.iaload, 1) := by decide +kernel
theorem dX11_count_120 : decode cX11_count 120 = .ok (.ireturn, 1) := by decide +kernel
theorem dX11_count_121 : decode cX11_count 121 = .ok (.aload_n 0, 1) := by decide +kernel
theorem dX11_count_122 : decode cX11_count 122 = .ok (.iconst 0, 1) := by decide +kernel
theorem dX11_count_123 : decode cX11_count 123 = .ok (.invokevirtual 414, 3) := by decide +kernel
theorem dX11_count_126 : decode cX11_count 126 = .ok (.ireturn, 1) := by decide +kernel
theorem dX11_count_127 : decode cX11_count 127 = .ok (.aload_n 0, 1) := by decide +kernel
theorem dX11_count_128 : decode cX11_count 128 = .ok (.iconst 1, 1) := by decide +kernel
theorem dX11_count_129 : decode cX11_count 129 = .ok (.invokevirtual 414, 3) := by decide +kernel
theorem dX11_count_132 : decode cX11_count 132 = .ok (.ireturn, 1) := by decide +kernel
theorem dX11_count_133 : decode cX11_count 133 = .ok (.aload_n 0, 1) := by decide +kernel
theorem dX11_count_134 : decode cX11_count 134 = .ok (.iconst 2, 1) := by decide +kernel
theorem dX11_count_135 : decode cX11_count 135 = .ok (.invokevirtual 414, 3) := by decide +kernel
theorem dX11_count_138 : decode cX11_count 138 = .ok (.ireturn, 1) := by decide +kernel
theorem dX11_count_139 : decode cX11_count 139 = .ok (.aload_n 0, 1) := by decide +kernel
theorem dX11_count_140 : decode cX11_count 140 = .ok (.iconst 3, 1) := by decide +kernel
theorem dX11_count_141 : decode cX11_count 141 = .ok (.invokevirtual 414, 3) := by decide +kernel
theorem dX11_count_144 : decode cX11_count 144 = .ok (.ireturn, 1) := by decide +kernel
theorem dX11_count_145 : decode cX11_count 145 = .ok (.aload_n 0, 1) := by decide +kernel
theorem dX11_count_146 : decode cX11_count 146 = .ok (.getfield 14, 3) := by decide +kernel
theorem dX11_count_149 : decode cX11_count 149 = .ok (.iconst 3, 1) := by decide +kernel
theorem dX11_count_150 : decode cX11_count 150 = .ok (.iaload, 1) := by decide +kernel
theorem dX11_count_151 : decode cX11_count 151 = .ok (.ireturn, 1) := by decide +kernel
theorem dX11_count_152 : decode cX11_count 152 = .ok (.aload_n 0, 1) := by decide +kernel
theorem dX11_count_153 : decode cX11_count 153 = .ok (.getfield 14, 3) := by decide +kernel
theorem dX11_count_156 : decode cX11_count 156 = .ok (.iconst 4, 1) := by decide +kernel
theorem dX11_count_157 : decode cX11_count 157 = .ok (.iaload, 1) := by decide +kernel
theorem dX11_count_158 : decode cX11_count 158 = .ok (.ireturn, 1) := by decide +kernel
theorem dX11_count_159 : decode cX11_count 159 = .ok (.aload_n 0, 1) := by decide +kernel
theorem dX11_count_160 : decode cX11_count 160 = .ok (.getfield 329, 3) := by decide +kernel
theorem dX11_count_163 : decode cX11_count 163 = .ok (.ireturn, 1) := by decide +kernel
theorem dX11_count_164 : decode cX11_count 164 = .ok (.aload_n 0, 1) := by decide +kernel
theorem dX11_count_165 : decode cX11_count 165 = .ok (.getfield 14, 3) := by decide +kernel
theorem dX11_count_168 : decode cX11_count 168 = .ok (.iconst 1, 1) := by decide +kernel
theorem dX11_count_169 : decode cX11_count 169 = .ok (.iaload, 1) := by decide +kernel
theorem dX11_count_170 : decode cX11_count 170 = .ok (.aload_n 0, 1) := by decide +kernel
theorem dX11_count_171 : decode cX11_count 171 = .ok (.invokevirtual 235, 3) := by decide +kernel
theorem dX11_count_174 : decode cX11_count 174 = .ok (.isub, 1) := by decide +kernel
theorem dX11_count_175 : decode cX11_count 175 = .ok (.ireturn, 1) := by decide +kernel
theorem dX11_count_176 : decode cX11_count 176 = .ok (.aload_n 0, 1) := by decide +kernel
theorem dX11_count_177 : decode cX11_count 177 = .ok (.getfield 14, 3) := by decide +kernel
theorem dX11_count_180 : decode cX11_count 180 = .ok (.bipush 6, 2) := by decide +kernel
theorem dX11_count_182 : decode cX11_count 182 = .ok (.iaload, 1) := by decide +kernel
theorem dX11_count_183 : decode cX11_count 183 = .ok (.ireturn, 1) := by decide +kernel
theorem dX11_count_184 : decode cX11_count 184 = .ok (.aload_n 0, 1) := by decide +kernel
theorem dX11_count_185 : decode cX11_count 185 = .ok (.getfield 14, 3) := by decide +kernel
theorem dX11_count_188 : decode cX11_count 188 = .ok (.bipush 7, 2) := by decide +kernel
theorem dX11_count_190 : decode cX11_count 190 = .ok (.iaload, 1) := by decide +kernel
theorem dX11_count_191 : decode cX11_count 191 = .ok (.ireturn, 1) := by decide +kernel
theorem dX11_count_192 : decode cX11_count 192 = .ok (.aload_n 0, 1) := by decide +kernel
theorem dX11_count_193 : decode cX11_count 193 = .ok (.getfield 14, 3) := by decide +kernel
theorem dX11_count_196 : decode cX11_count 196 = .ok (.iconst 5, 1) := by decide +kernel
theorem dX11_count_197 : decode cX11_count 197 = .ok (.iaload, 1) := by decide +kernel
theorem dX11_count_198 : decode cX11_count 198 = .ok (.ireturn, 1) := by decide +kernel
theorem dX11_count_199 : decode cX11_count 199 = .ok (.aload_n 0, 1) := by decide +kernel
theorem dX11_count_200 : decode cX11_count 200 = .ok (.bipush (-7), 2) := by decide +kernel
theorem dX11_count_202 : decode cX11_count 202 = .ok (.invokevirtual 108, 3) := by decide +kernel
theorem dX11_count_205 : decode cX11_count 205 = .ok (.ireturn, 1) := by decide +kernel
theorem dX11_image_0 : decode cX11_image 0 = .ok (.iconst 0, 1) := by decide +kernel
theorem dX11_image_1 : decode cX11_image 1 = .ok (.istore_n 1, 1) := by decide +kernel
theorem dX11_image_2 : decode cX11_image 2 = .ok (.iload_n 1, 1) := by decide +kernel
theorem dX11_image_3 : decode cX11_image 3 = .ok (.ldc 13, 2) := by decide +kernel
theorem dX11_image_5 : decode cX11_image 5 = .ok (.if_icmp .ge 21, 3) := by decide +kernel
theorem dX11_image_8 : decode cX11_image 8 = .ok (.aload_n 0, 1) := by decide +kernel
theorem dX11_image_9 : decode cX11_image 9 = .ok (.getfield 95, 3) := by decide +kernel
theorem dX11_image_12 : decode cX11_image 12 = .ok (.iload_n 1, 1) := by decide +kernel
theorem dX11_image_13 : decode cX11_image 13 = .ok (.aload_n 0, 1) := by decide +kernel
theorem dX11_image_14 : decode cX11_image 14 = .ok (.getfield 14, 3) := by decide +kernel
theorem dX11_image_17 : decode cX11_image 17 = .ok (.iload_n 1, 1) := by decide +kernel
theorem dX11_image_18 : decode cX11_image 18 = .ok (.iaload, 1) := by decide +kernel
theorem dX11_image_19 : decode cX11_image 19 = .ok (.iastore, 1) := by decide +kernel
theorem dX11_image_20 : decode cX11_image 20 = .ok (.iinc 1 1, 3) := by decide +kernel
theorem dX11_image_23 : decode cX11_image 23 = .ok (.goto (-21), 3) := by decide +kernel
theorem dX11_image_26 : decode cX11_image 26 = .ok (.iconst 0, 1) := by decide +kernel
theorem dX11_image_27 : decode cX11_image 27 = .ok (.istore_n 1, 1) := by decide +kernel
theorem dX11_image_28 : decode cX11_image 28 = .ok (.iload_n 1, 1) := by decide +kernel
theorem dX11_image_29 : decode cX11_image 29 = .ok (.sipush 216, 3) := by decide +kernel
theorem dX11_image_32 : decode cX11_image 32 = .ok (.if_icmp .ge 21, 3) := by decide +kernel
theorem dX11_image_35 : decode cX11_image 35 = .ok (.aload_n 0, 1) := by decide +kernel
theorem dX11_image_36 : decode cX11_image 36 = .ok (.getfield 98, 3) := by decide +kernel
theorem dX11_image_39 : decode cX11_image 39 = .ok (.iload_n 1, 1) := by decide +kernel
theorem dX11_image_40 : decode cX11_image 40 = .ok (.aload_n 0, 1) := by decide +kernel
theorem dX11_image_41 : decode cX11_image 41 = .ok (.getfield 18, 3) := by decide +kernel
theorem dX11_image_44 : decode cX11_image 44 = .ok (.iload_n 1, 1) := by decide +kernel
theorem dX11_image_45 : decode cX11_image 45 = .ok (.laload, 1) := by decide +kernel
theorem dX11_image_46 : decode cX11_image 46 = .ok (.lastore, 1) := by decide +kernel
theorem dX11_image_47 : decode cX11_image 47 = .ok (.iinc 1 1, 3) := by decide +kernel
theorem dX11_image_50 : decode cX11_image 50 = .ok (.goto (-22), 3) := by decide +kernel
theorem dX11_image_53 : decode cX11_image 53 = .ok (.aload_n 0, 1) := by decide +kernel
theorem dX11_image_54 : decode cX11_image 54 = .ok (.iconst 1, 1) := by decide +kernel
theorem dX11_image_55 : decode cX11_image 55 = .ok (.putfield 417, 3) := by decide +kernel
theorem dX11_image_58 : decode cX11_image 58 = .ok (.aload_n 0, 1) := by decide +kernel
theorem dX11_image_59 : decode cX11_image 59 = .ok (.getfield 14, 3) := by decide +kernel
theorem dX11_image_62 : decode cX11_image 62 = .ok (.iconst 0, 1) := by decide +kernel
theorem dX11_image_63 : decode cX11_image 63 = .ok (.iaload, 1) := by decide +kernel
theorem dX11_image_64 : decode cX11_image 64 = .ok (.ireturn, 1) := by decide +kernel
theorem dX11_back_0 : decode cX11_back 0 = .ok (.aload_n 0, 1) := by decide +kernel
theorem dX11_back_1 : decode cX11_back 1 = .ok (.getfield 417, 3) := by decide +kernel
theorem dX11_back_4 : decode cX11_back 4 = .ok (.ifCond .ne 10, 3) := by decide +kernel
theorem dX11_back_7 : decode cX11_back 7 = .ok (.aload_n 0, 1) := by decide +kernel
theorem dX11_back_8 : decode cX11_back 8 = .ok (.bipush (-2), 2) := by decide +kernel
theorem dX11_back_10 : decode cX11_back 10 = .ok (.invokevirtual 108, 3) := by decide +kernel
theorem dX11_back_13 : decode cX11_back 13 = .ok (.ireturn, 1) := by decide +kernel
theorem dX11_back_14 : decode cX11_back 14 = .ok (.iconst 0, 1) := by decide +kernel
theorem dX11_back_15 : decode cX11_back 15 = .ok (.istore_n 1, 1) := by decide +kernel
theorem dX11_back_16 : decode cX11_back 16 = .ok (.iload_n 1, 1) := by decide +kernel
theorem dX11_back_17 : decode cX11_back 17 = .ok (.ldc 13, 2) := by decide +kernel
theorem dX11_back_19 : decode cX11_back 19 = .ok (.if_icmp .ge 21, 3) := by decide +kernel
