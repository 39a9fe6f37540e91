theorem dW_law_438 : decode code 438 = .ok (.iaload, 1) := by decide +kernel
theorem dW_law_439 : decode code 439 = .ok (.aload_n 0, 1) := by decide +kernel
theorem dW_law_440 : decode code 440 = .ok (.iload 4, 2) := by decide +kernel
theorem dW_law_442 : decode code 442 = .ok (.iconst 2, 1) := by decide +kernel
theorem dW_law_443 : decode code 443 = .ok (.iadd, 1) := by decide +kernel
theorem dW_law_444 : decode code 444 = .ok (.iaload, 1) := by decide +kernel
theorem dW_law_445 : decode code 445 = .ok (.aload_n 0, 1) := by decide +kernel
theorem dW_law_446 : decode code 446 = .ok (.iload 4, 2) := by decide +kernel
theorem dW_law_448 : decode code 448 = .ok (.iconst 3, 1) := by decide +kernel
theorem dW_law_449 : decode code 449 = .ok (.iadd, 1) := by decide +kernel
theorem dW_law_450 : decode code 450 = .ok (.iaload, 1) := by decide +kernel
theorem dW_law_451 : decode code 451 = .ok (.aload_n 3, 1) := by decide +kernel
theorem dW_law_452 : decode code 452 = .ok (.invokestatic 87, 3) := by decide +kernel
theorem dW_law_455 : decode code 455 = .ok (.istore 5, 2) := by decide +kernel
theorem dW_law_457 : decode code 457 = .ok (.aload_n 2, 1) := by decide +kernel
theorem dW_law_458 : decode code 458 = .ok (.aload_n 0, 1) := by decide +kernel
theorem dW_law_459 : decode code 459 = .ok (.iload 4, 2) := by decide +kernel
theorem dW_law_461 : decode code 461 = .ok (.iconst 1, 1) := by decide +kernel
theorem dW_law_462 : decode code 462 = .ok (.iadd, 1) := by decide +kernel
theorem dW_law_463 : decode code 463 = .ok (.iaload, 1) := by decide +kernel
theorem dW_law_464 : decode code 464 = .ok (.aload_n 0, 1) := by decide +kernel
theorem dW_law_465 : decode code 465 = .ok (.iload 4, 2) := by decide +kernel
theorem dW_law_467 : decode code 467 = .ok (.iconst 2, 1) := by decide +kernel
theorem dW_law_468 : decode code 468 = .ok (.iadd, 1) := by decide +kernel
theorem dW_law_469 : decode code 469 = .ok (.iaload, 1) := by decide +kernel
theorem dW_law_470 : decode code 470 = .ok (.aload_n 0, 1) := by decide +kernel
theorem dW_law_471 : decode code 471 = .ok (.iload 4, 2) := by decide +kernel
theorem dW_law_473 : decode code 473 = .ok (.iconst 3, 1) := by decide +kernel
theorem dW_law_474 : decode code 474 = .ok (.iadd, 1) := by decide +kernel
theorem dW_law_475 : decode code 475 = .ok (.iaload, 1) := by decide +kernel
theorem dW_law_476 : decode code 476 = .ok (.invokevirtual 89, 3) := by decide +kernel
theorem dW_law_479 : decode code 479 = .ok (.istore 6, 2) := by decide +kernel
theorem dW_law_481 : decode code 481 = .ok (.aload_n 2, 1) := by decide +kernel
theorem dW_law_482 : decode code 482 = .ok (.invokevirtual 69, 3) := by decide +kernel
theorem dW_law_485 : decode code 485 = .ok (.iload 5, 2) := by decide +kernel
theorem dW_law_487 : decode code 487 = .ok (.if_icmp .eq 5, 3) := by decide +kernel
theorem dW_law_490 : decode code 490 = .ok (.iconst 0, 1) := by decide +kernel
theorem dW_law_491 : decode code 491 = .ok (.ireturn, 1) := by decide +kernel
theorem dW_law_492 : decode code 492 = .ok (.iload 5, 2) := by decide +kernel
theorem dW_law_494 : decode code 494 = .ok (.ifCond .ne 15, 3) := by decide +kernel
theorem dW_law_497 : decode code 497 = .ok (.aload_n 3, 1) := by decide +kernel
theorem dW_law_498 : decode code 498 = .ok (.iconst 0, 1) := by decide +kernel
theorem dW_law_499 : decode code 499 = .ok (.laload, 1) := by decide +kernel
theorem dW_law_500 : decode code 500 = .ok (.iload 6, 2) := by decide +kernel
theorem dW_law_502 : decode code 502 = .ok (.i2l, 1) := by decide +kernel
theorem dW_law_503 : decode code 503 = .ok (.lcmp, 1) := by decide +kernel
theorem dW_law_504 : decode code 504 = .ok (.ifCond .eq 5, 3) := by decide +kernel
theorem dW_law_507 : decode code 507 = .ok (.iconst 0, 1) := by decide +kernel
theorem dW_law_508 : decode code 508 = .ok (.ireturn, 1) := by decide +kernel
theorem dW_law_509 : decode code 509 = .ok (.goto 449, 3) := by decide +kernel
theorem dW_law_512 : decode code 512 = .ok (.aload_n 1, 1) := by decide +kernel
theorem dW_law_513 : decode code 513 = .ok (.aload_n 0, 1) := by decide +kernel
theorem dW_law_514 : decode code 514 = .ok (.iload 4, 2) := by decide +kernel
theorem dW_law_516 : decode code 516 = .ok (.iconst 1, 1) := by decide +kernel
theorem dW_law_517 : decode code 517 = .ok (.iadd, 1) := by decide +kernel
theorem dW_law_518 : decode code 518 = .ok (.iaload, 1) := by decide +kernel
theorem dW_law_519 : decode code 519 = .ok (.aload_n 0, 1) := by decide +kernel
theorem dW_law_520 : decode code 520 = .ok (.iload 4, 2) := by decide +kernel
theorem dW_law_522 : decode code 522 = .ok (.iconst 2, 1) := by decide +kernel
theorem dW_law_523 : decode code 523 = .ok (.iadd, 1) := by decide +kernel
theorem dW_law_524 : decode code 524 = .ok (.iaload, 1) := by decide +kernel
theorem dW_law_525 : decode code 525 = .ok (.aload_n 3, 1) := by decide +kernel
theorem dW_law_526 : decode code 526 = .ok (.invokestatic 90, 3) := by decide +kernel
theorem dW_law_529 : decode code 529 = .ok (.istore 5, 2) := by decide +kernel
theorem dW_law_531 : decode code 531 = .ok (.aload_n 2, 1) := by decide +kernel
theorem dW_law_532 : decode code 532 = .ok (.aload_n 0, 1) := by decide +kernel
theorem dW_law_533 : decode code 533 = .ok (.iload 4, 2) := by decide +kernel
theorem dW_law_535 : decode code 535 = .ok (.iconst 1, 1) := by decide +kernel
theorem dW_law_536 : decode code 536 = .ok (.iadd, 1) := by decide +kernel
theorem dW_law_537 : decode code 537 = .ok (.iaload, 1) := by decide +kernel
theorem dW_law_538 : decode code 538 = .ok (.aload_n 0, 1) := by decide +kernel
theorem dW_law_539 : decode code 539 = .ok (.iload 4, 2) := by decide +kernel
theorem dW_law_541 : decode code 541 = .ok (.iconst 2, 1) := by decide +kernel
theorem dW_law_542 : decode code 542 = .ok (.iadd, 1) := by decide +kernel
theorem dW_law_543 : decode code 543 = .ok (.iaload, 1) := by decide +kernel
theorem dW_law_544 : decode code 544 = .ok (.invokevirtual 93, 3) := by decide +kernel
theorem dW_law_547 : decode code 547 = .ok (.istore 6, 2) := by decide +kernel
theorem dW_law_549 : decode code 549 = .ok (.aload_n 2, 1) := by decide +kernel
theorem dW_law_550 : decode code 550 = .ok (.invokevirtual 69, 3) := by decide +kernel
theorem dW_law_553 : decode code 553 = .ok (.iload 5, 2) := by decide +kernel
theorem dW_law_555 : decode code 555 = .ok (.if_icmp .eq 5, 3) := by decide +kernel
theorem dW_law_558 : decode code 558 = .ok (.iconst 0, 1) := by decide +kernel
theorem dW_law_559 : decode code 559 = .ok (.ireturn, 1) := by decide +kernel
theorem dW_law_560 : decode code 560 = .ok (.iload 5, 2) := by decide +kernel
theorem dW_law_562 : decode code 562 = .ok (.ifCond .ne 15, 3) := by decide +kernel
theorem dW_law_565 : decode code 565 = .ok (.aload_n 3, 1) := by decide +kernel
theorem dW_law_566 : decode code 566 = .ok (.iconst 0, 1) := by decide +kernel
theorem dW_law_567 : decode code 567 = .ok (.laload, 1) := by decide +kernel
theorem dW_law_568 : decode code 568 = .ok (.iload 6, 2) := by decide +kernel
theorem dW_law_570 : decode code 570 = .ok (.i2l, 1) := by decide +kernel
theorem dW_law_571 : decode code 571 = .ok (.lcmp, 1) := by decide +kernel
theorem dW_law_572 : decode code 572 = .ok (.ifCond .eq 5, 3) := by decide +kernel
theorem dW_law_575 : decode code 575 = .ok (.iconst 0, 1) := by decide +kernel
theorem dW_law_576 : decode code 576 = .ok (.ireturn, 1) := by decide +kernel
theorem dW_law_577 : decode code 577 = .ok (.goto 381, 3) := by decide +kernel
theorem dW_law_580 : decode code 580 = .ok (.aload_n 1, 1) := by decide +kernel
theorem dW_law_581 : decode code 581 = .ok (.aload_n 0, 1) := by decide +kernel
theorem dW_law_582 : decode code 582 = .ok (.iload 4, 2) := by decide +kernel
theorem dW_law_584 : decode code 584 = .ok (.iconst 1, 1) := by decide +kernel
theorem dW_law_585 : decode code 585 = .ok (.iadd, 1) := by decide +kernel
theorem dW_law_586 : decode code 586 = .ok (.iaload, 1) := by decide +kernel
theorem dW_law_587 : decode code 587 = .ok (.aload_n 0, 1) := by decide +kernel
theorem dW_law_588 : decode code 588 = .ok (.iload 4, 2) := by decide +kernel
theorem dW_law_590 : decode code 590 = .ok (.iconst 2, 1) := by decide +kernel
theorem dW_law_591 : decode code 591 = .ok (.iadd, 1) := by decide +kernel
theorem dW_law_592 : decode code 592 = .ok (.iaload, 1) := by decide +kernel
theorem dW_law_593 : decode code 593 = .ok (.aload_n 3, 1) := by decide +kernel
theorem dW_law_594 : decode code 594 = .ok (.invokestatic 94, 3) := by decide +kernel
theorem dW_law_597 : decode code 597 = .ok (.istore 5, 2) := by decide +kernel
theorem dW_law_599 : decode code 599 = .ok (.aload_n 2, 1) := by decide +kernel
theorem dW_law_600 : decode code 600 = .ok (.aload_n 0, 1) := by decide +kernel
theorem dW_law_601 : decode code 601 = .ok (.iload 4, 2) := by decide +kernel
theorem dW_law_603 : decode code 603 = .ok (.iconst 1, 1) := by decide +kernel
theorem dW_law_604 : decode code 604 = .ok (.iadd, 1) := by decide +kernel
theorem dW_law_605 : decode code 605 = .ok (.iaload, 1) := by decide +kernel
theorem dW_law_606 : decode code 606 = .ok (.aload_n 0, 1) := by decide +kernel
theorem dW_law_607 : decode code 607 = .ok (.iload 4, 2) := by decide +kernel
theorem dW_law_609 : decode code 609 = .ok (.iconst 2, 1) := by decide +kernel
theorem dW_law_610 : decode code 610 = .ok (.iadd, 1) := by decide +kernel
theorem dW_law_611 : decode code 611 = .ok (.iaload, 1) := by decide +kernel
