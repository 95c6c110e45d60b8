theorem d_La_law_445 : decode code 445 = .ok (.iconst 1, 1) := by decide +kernel
theorem d_La_law_446 : decode code 446 = .ok (.iadd, 1) := by decide +kernel
theorem d_La_law_447 : decode code 447 = .ok (.iaload, 1) := by decide +kernel
theorem d_La_law_448 : decode code 448 = .ok (.aload_n 0, 1) := by decide +kernel
theorem d_La_law_449 : decode code 449 = .ok (.iload 4, 2) := by decide +kernel
theorem d_La_law_451 : decode code 451 = .ok (.iconst 2, 1) := by decide +kernel
theorem d_La_law_452 : decode code 452 = .ok (.iadd, 1) := by decide +kernel
theorem d_La_law_453 : decode code 453 = .ok (.iaload, 1) := by decide +kernel
theorem d_La_law_454 : decode code 454 = .ok (.aload_n 0, 1) := by decide +kernel
theorem d_La_law_455 : decode code 455 = .ok (.iload 4, 2) := by decide +kernel
theorem d_La_law_457 : decode code 457 = .ok (.iconst 3, 1) := by decide +kernel
theorem d_La_law_458 : decode code 458 = .ok (.iadd, 1) := by decide +kernel
theorem d_La_law_459 : decode code 459 = .ok (.iaload, 1) := by decide +kernel
theorem d_La_law_460 : decode code 460 = .ok (.i2l, 1) := by decide +kernel
theorem d_La_law_461 : decode code 461 = .ok (.bipush 32, 2) := by decide +kernel
theorem d_La_law_463 : decode code 463 = .ok (.lshl, 1) := by decide +kernel
theorem d_La_law_464 : decode code 464 = .ok (.aload_n 0, 1) := by decide +kernel
theorem d_La_law_465 : decode code 465 = .ok (.iload 4, 2) := by decide +kernel
theorem d_La_law_467 : decode code 467 = .ok (.iconst 4, 1) := by decide +kernel
theorem d_La_law_468 : decode code 468 = .ok (.iadd, 1) := by decide +kernel
theorem d_La_law_469 : decode code 469 = .ok (.iaload, 1) := by decide +kernel
theorem d_La_law_470 : decode code 470 = .ok (.i2l, 1) := by decide +kernel
theorem d_La_law_471 : decode code 471 = .ok (.ldc2_w 27, 3) := by decide +kernel
theorem d_La_law_474 : decode code 474 = .ok (.land, 1) := by decide +kernel
theorem d_La_law_475 : decode code 475 = .ok (.lor, 1) := by decide +kernel
theorem d_La_law_476 : decode code 476 = .ok (.invokevirtual 65, 3) := by decide +kernel
theorem d_La_law_479 : decode code 479 = .ok (.aload_n 2, 1) := by decide +kernel
theorem d_La_law_480 : decode code 480 = .ok (.aload_n 0, 1) := by decide +kernel
theorem d_La_law_481 : decode code 481 = .ok (.iload 4, 2) := by decide +kernel
theorem d_La_law_483 : decode code 483 = .ok (.iconst 1, 1) := by decide +kernel
theorem d_La_law_484 : decode code 484 = .ok (.iadd, 1) := by decide +kernel
theorem d_La_law_485 : decode code 485 = .ok (.iaload, 1) := by decide +kernel
theorem d_La_law_486 : decode code 486 = .ok (.aload_n 0, 1) := by decide +kernel
theorem d_La_law_487 : decode code 487 = .ok (.iload 4, 2) := by decide +kernel
theorem d_La_law_489 : decode code 489 = .ok (.iconst 2, 1) := by decide +kernel
theorem d_La_law_490 : decode code 490 = .ok (.iadd, 1) := by decide +kernel
theorem d_La_law_491 : decode code 491 = .ok (.iaload, 1) := by decide +kernel
theorem d_La_law_492 : decode code 492 = .ok (.aload_n 0, 1) := by decide +kernel
theorem d_La_law_493 : decode code 493 = .ok (.iload 4, 2) := by decide +kernel
theorem d_La_law_495 : decode code 495 = .ok (.iconst 3, 1) := by decide +kernel
theorem d_La_law_496 : decode code 496 = .ok (.iadd, 1) := by decide +kernel
theorem d_La_law_497 : decode code 497 = .ok (.iaload, 1) := by decide +kernel
theorem d_La_law_498 : decode code 498 = .ok (.i2l, 1) := by decide +kernel
theorem d_La_law_499 : decode code 499 = .ok (.bipush 32, 2) := by decide +kernel
theorem d_La_law_501 : decode code 501 = .ok (.lshl, 1) := by decide +kernel
theorem d_La_law_502 : decode code 502 = .ok (.aload_n 0, 1) := by decide +kernel
theorem d_La_law_503 : decode code 503 = .ok (.iload 4, 2) := by decide +kernel
theorem d_La_law_505 : decode code 505 = .ok (.iconst 4, 1) := by decide +kernel
theorem d_La_law_506 : decode code 506 = .ok (.iadd, 1) := by decide +kernel
theorem d_La_law_507 : decode code 507 = .ok (.iaload, 1) := by decide +kernel
theorem d_La_law_508 : decode code 508 = .ok (.i2l, 1) := by decide +kernel
theorem d_La_law_509 : decode code 509 = .ok (.ldc2_w 27, 3) := by decide +kernel
theorem d_La_law_512 : decode code 512 = .ok (.land, 1) := by decide +kernel
theorem d_La_law_513 : decode code 513 = .ok (.lor, 1) := by decide +kernel
theorem d_La_law_514 : decode code 514 = .ok (.invokevirtual 69, 3) := by decide +kernel
theorem d_La_law_517 : decode code 517 = .ok (.if_icmp .eq 291, 3) := by decide +kernel
theorem d_La_law_520 : decode code 520 = .ok (.iconst 0, 1) := by decide +kernel
theorem d_La_law_521 : decode code 521 = .ok (.ireturn, 1) := by decide +kernel
theorem d_La_law_522 : decode code 522 = .ok (.aload_n 1, 1) := by decide +kernel
theorem d_La_law_523 : decode code 523 = .ok (.aload_n 0, 1) := by decide +kernel
theorem d_La_law_524 : decode code 524 = .ok (.iload 4, 2) := by decide +kernel
theorem d_La_law_526 : decode code 526 = .ok (.iconst 1, 1) := by decide +kernel
theorem d_La_law_527 : decode code 527 = .ok (.iadd, 1) := by decide +kernel
theorem d_La_law_528 : decode code 528 = .ok (.iaload, 1) := by decide +kernel
theorem d_La_law_529 : decode code 529 = .ok (.aload_n 0, 1) := by decide +kernel
theorem d_La_law_530 : decode code 530 = .ok (.iload 4, 2) := by decide +kernel
theorem d_La_law_532 : decode code 532 = .ok (.iconst 2, 1) := by decide +kernel
theorem d_La_law_533 : decode code 533 = .ok (.iadd, 1) := by decide +kernel
theorem d_La_law_534 : decode code 534 = .ok (.iaload, 1) := by decide +kernel
theorem d_La_law_535 : decode code 535 = .ok (.i2l, 1) := by decide +kernel
theorem d_La_law_536 : decode code 536 = .ok (.bipush 32, 2) := by decide +kernel
theorem d_La_law_538 : decode code 538 = .ok (.lshl, 1) := by decide +kernel
theorem d_La_law_539 : decode code 539 = .ok (.aload_n 0, 1) := by decide +kernel
theorem d_La_law_540 : decode code 540 = .ok (.iload 4, 2) := by decide +kernel
theorem d_La_law_542 : decode code 542 = .ok (.iconst 3, 1) := by decide +kernel
theorem d_La_law_543 : decode code 543 = .ok (.iadd, 1) := by decide +kernel
theorem d_La_law_544 : decode code 544 = .ok (.iaload, 1) := by decide +kernel
theorem d_La_law_545 : decode code 545 = .ok (.i2l, 1) := by decide +kernel
theorem d_La_law_546 : decode code 546 = .ok (.ldc2_w 27, 3) := by decide +kernel
theorem d_La_law_549 : decode code 549 = .ok (.land, 1) := by decide +kernel
theorem d_La_law_550 : decode code 550 = .ok (.lor, 1) := by decide +kernel
theorem d_La_law_551 : decode code 551 = .ok (.invokevirtual 70, 3) := by decide +kernel
theorem d_La_law_554 : decode code 554 = .ok (.aload_n 2, 1) := by decide +kernel
theorem d_La_law_555 : decode code 555 = .ok (.aload_n 0, 1) := by decide +kernel
theorem d_La_law_556 : decode code 556 = .ok (.iload 4, 2) := by decide +kernel
theorem d_La_law_558 : decode code 558 = .ok (.iconst 1, 1) := by decide +kernel
theorem d_La_law_559 : decode code 559 = .ok (.iadd, 1) := by decide +kernel
theorem d_La_law_560 : decode code 560 = .ok (.iaload, 1) := by decide +kernel
theorem d_La_law_561 : decode code 561 = .ok (.aload_n 0, 1) := by decide +kernel
theorem d_La_law_562 : decode code 562 = .ok (.iload 4, 2) := by decide +kernel
theorem d_La_law_564 : decode code 564 = .ok (.iconst 2, 1) := by decide +kernel
theorem d_La_law_565 : decode code 565 = .ok (.iadd, 1) := by decide +kernel
theorem d_La_law_566 : decode code 566 = .ok (.iaload, 1) := by decide +kernel
theorem d_La_law_567 : decode code 567 = .ok (.i2l, 1) := by decide +kernel
theorem d_La_law_568 : decode code 568 = .ok (.bipush 32, 2) := by decide +kernel
theorem d_La_law_570 : decode code 570 = .ok (.lshl, 1) := by decide +kernel
theorem d_La_law_571 : decode code 571 = .ok (.aload_n 0, 1) := by decide +kernel
theorem d_La_law_572 : decode code 572 = .ok (.iload 4, 2) := by decide +kernel
theorem d_La_law_574 : decode code 574 = .ok (.iconst 3, 1) := by decide +kernel
theorem d_La_law_575 : decode code 575 = .ok (.iadd, 1) := by decide +kernel
theorem d_La_law_576 : decode code 576 = .ok (.iaload, 1) := by decide +kernel
theorem d_La_law_577 : decode code 577 = .ok (.i2l, 1) := by decide +kernel
theorem d_La_law_578 : decode code 578 = .ok (.ldc2_w 27, 3) := by decide +kernel
theorem d_La_law_581 : decode code 581 = .ok (.land, 1) := by decide +kernel
theorem d_La_law_582 : decode code 582 = .ok (.lor, 1) := by decide +kernel
theorem d_La_law_583 : decode code 583 = .ok (.invokevirtual 74, 3) := by decide +kernel
theorem d_La_law_586 : decode code 586 = .ok (.if_icmp .eq 222, 3) := by decide +kernel
theorem d_La_law_589 : decode code 589 = .ok (.iconst 0, 1) := by decide +kernel
theorem d_La_law_590 : decode code 590 = .ok (.ireturn, 1) := by decide +kernel
theorem d_La_law_591 : decode code 591 = .ok (.aload_n 1, 1) := by decide +kernel
theorem d_La_law_592 : decode code 592 = .ok (.aload_n 0, 1) := by decide +kernel
theorem d_La_law_593 : decode code 593 = .ok (.iload 4, 2) := by decide +kernel
theorem d_La_law_595 : decode code 595 = .ok (.iconst 1, 1) := by decide +kernel
theorem d_La_law_596 : decode code 596 = .ok (.iadd, 1) := by decide +kernel
theorem d_La_law_597 : decode code 597 = .ok (.iaload, 1) := by decide +kernel
theorem d_La_law_598 : decode code 598 = .ok (.invokevirtual 75, 3) := by decide +kernel
theorem d_La_law_601 : decode code 601 = .ok (.aload_n 2, 1) := by decide +kernel
theorem d_La_law_602 : decode code 602 = .ok (.aload_n 0, 1) := by decide +kernel
theorem d_La_law_603 : decode code 603 = .ok (.iload 4, 2) := by decide +kernel
theorem d_La_law_605 : decode code 605 = .ok (.iconst 1, 1) := by decide +kernel
theorem d_La_law_606 : decode code 606 = .ok (.iadd, 1) := by decide +kernel
theorem d_La_law_607 : decode code 607 = .ok (.iaload, 1) := by decide +kernel
theorem d_La_law_608 : decode code 608 = .ok (.invokevirtual 78, 3) := by decide +kernel
theorem d_La_law_611 : decode code 611 = .ok (.if_icmp .eq 197, 3) := by decide +kernel
theorem d_La_law_614 : decode code 614 = .ok (.iconst 0, 1) := by decide +kernel
theorem d_La_law_615 : decode code 615 = .ok (.ireturn, 1) := by decide +kernel
theorem d_La_law_616 : decode code 616 = .ok (.aload_n 1, 1) := by decide +kernel
theorem d_La_law_617 : decode code 617 = .ok (.aload_n 0, 1) := by decide +kernel
theorem d_La_law_618 : decode code 618 = .ok (.iload 4, 2) := by decide +kernel
theorem d_La_law_620 : decode code 620 = .ok (.iconst 1, 1) := by decide +kernel
theorem d_La_law_621 : decode code 621 = .ok (.iadd, 1) := by decide +kernel
theorem d_La_law_622 : decode code 622 = .ok (.iaload, 1) := by decide +kernel
