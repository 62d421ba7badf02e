/-! the law, decoded: 492 and on -/
theorem dl_492 : decode code 492 = .ok (.aload_n 2, 1) := by decide +kernel
theorem dl_493 : decode code 493 = .ok (.aload_n 0, 1) := by decide +kernel
theorem dl_494 : decode code 494 = .ok (.iload 4, 2) := by decide +kernel
theorem dl_496 : decode code 496 = .ok (.iconst 1, 1) := by decide +kernel
theorem dl_497 : decode code 497 = .ok (.iadd, 1) := by decide +kernel
theorem dl_498 : decode code 498 = .ok (.iaload, 1) := by decide +kernel
theorem dl_499 : decode code 499 = .ok (.aload_n 0, 1) := by decide +kernel
theorem dl_500 : decode code 500 = .ok (.iload 4, 2) := by decide +kernel
theorem dl_502 : decode code 502 = .ok (.iconst 2, 1) := by decide +kernel
theorem dl_503 : decode code 503 = .ok (.iadd, 1) := by decide +kernel
theorem dl_504 : decode code 504 = .ok (.iaload, 1) := by decide +kernel
theorem dl_505 : decode code 505 = .ok (.invokevirtual 52, 3) := by decide +kernel
theorem dl_508 : decode code 508 = .ok (.if_icmp .eq 1297, 3) := by decide +kernel
theorem dl_511 : decode code 511 = .ok (.iconst 0, 1) := by decide +kernel
theorem dl_512 : decode code 512 = .ok (.ireturn, 1) := by decide +kernel
theorem dl_513 : decode code 513 = .ok (.aload_n 1, 1) := by decide +kernel
theorem dl_514 : decode code 514 = .ok (.aload_n 0, 1) := by decide +kernel
theorem dl_515 : decode code 515 = .ok (.iload 4, 2) := by decide +kernel
theorem dl_517 : decode code 517 = .ok (.iconst 1, 1) := by decide +kernel
theorem dl_518 : decode code 518 = .ok (.iadd, 1) := by decide +kernel
theorem dl_519 : decode code 519 = .ok (.iaload, 1) := by decide +kernel
theorem dl_520 : decode code 520 = .ok (.aload_n 0, 1) := by decide +kernel
theorem dl_521 : decode code 521 = .ok (.iload 4, 2) := by decide +kernel
theorem dl_523 : decode code 523 = .ok (.iconst 2, 1) := by decide +kernel
theorem dl_524 : decode code 524 = .ok (.iadd, 1) := by decide +kernel
theorem dl_525 : decode code 525 = .ok (.iaload, 1) := by decide +kernel
theorem dl_526 : decode code 526 = .ok (.invokevirtual 53, 3) := by decide +kernel
theorem dl_529 : decode code 529 = .ok (.aload_n 2, 1) := by decide +kernel
theorem dl_530 : decode code 530 = .ok (.aload_n 0, 1) := by decide +kernel
theorem dl_531 : decode code 531 = .ok (.iload 4, 2) := by decide +kernel
theorem dl_533 : decode code 533 = .ok (.iconst 1, 1) := by decide +kernel
theorem dl_534 : decode code 534 = .ok (.iadd, 1) := by decide +kernel
theorem dl_535 : decode code 535 = .ok (.iaload, 1) := by decide +kernel
theorem dl_536 : decode code 536 = .ok (.aload_n 0, 1) := by decide +kernel
theorem dl_537 : decode code 537 = .ok (.iload 4, 2) := by decide +kernel
theorem dl_539 : decode code 539 = .ok (.iconst 2, 1) := by decide +kernel
theorem dl_540 : decode code 540 = .ok (.iadd, 1) := by decide +kernel
theorem dl_541 : decode code 541 = .ok (.iaload, 1) := by decide +kernel
theorem dl_542 : decode code 542 = .ok (.invokevirtual 56, 3) := by decide +kernel
theorem dl_545 : decode code 545 = .ok (.if_icmp .eq 1260, 3) := by decide +kernel
theorem dl_548 : decode code 548 = .ok (.iconst 0, 1) := by decide +kernel
theorem dl_549 : decode code 549 = .ok (.ireturn, 1) := by decide +kernel
theorem dl_550 : decode code 550 = .ok (.aload_n 1, 1) := by decide +kernel
theorem dl_551 : decode code 551 = .ok (.aload_n 0, 1) := by decide +kernel
theorem dl_552 : decode code 552 = .ok (.iload 4, 2) := by decide +kernel
theorem dl_554 : decode code 554 = .ok (.iconst 1, 1) := by decide +kernel
theorem dl_555 : decode code 555 = .ok (.iadd, 1) := by decide +kernel
theorem dl_556 : decode code 556 = .ok (.iaload, 1) := by decide +kernel
theorem dl_557 : decode code 557 = .ok (.aload_n 0, 1) := by decide +kernel
theorem dl_558 : decode code 558 = .ok (.iload 4, 2) := by decide +kernel
theorem dl_560 : decode code 560 = .ok (.iconst 2, 1) := by decide +kernel
theorem dl_561 : decode code 561 = .ok (.iadd, 1) := by decide +kernel
theorem dl_562 : decode code 562 = .ok (.iaload, 1) := by decide +kernel
theorem dl_563 : decode code 563 = .ok (.invokevirtual 57, 3) := by decide +kernel
theorem dl_566 : decode code 566 = .ok (.aload_n 2, 1) := by decide +kernel
theorem dl_567 : decode code 567 = .ok (.aload_n 0, 1) := by decide +kernel
theorem dl_568 : decode code 568 = .ok (.iload 4, 2) := by decide +kernel
theorem dl_570 : decode code 570 = .ok (.iconst 1, 1) := by decide +kernel
theorem dl_571 : decode code 571 = .ok (.iadd, 1) := by decide +kernel
theorem dl_572 : decode code 572 = .ok (.iaload, 1) := by decide +kernel
theorem dl_573 : decode code 573 = .ok (.aload_n 0, 1) := by decide +kernel
theorem dl_574 : decode code 574 = .ok (.iload 4, 2) := by decide +kernel
theorem dl_576 : decode code 576 = .ok (.iconst 2, 1) := by decide +kernel
theorem dl_577 : decode code 577 = .ok (.iadd, 1) := by decide +kernel
theorem dl_578 : decode code 578 = .ok (.iaload, 1) := by decide +kernel
theorem dl_579 : decode code 579 = .ok (.invokevirtual 60, 3) := by decide +kernel
theorem dl_582 : decode code 582 = .ok (.if_icmp .eq 1223, 3) := by decide +kernel
theorem dl_585 : decode code 585 = .ok (.iconst 0, 1) := by decide +kernel
theorem dl_586 : decode code 586 = .ok (.ireturn, 1) := by decide +kernel
theorem dl_587 : decode code 587 = .ok (.aload_n 1, 1) := by decide +kernel
theorem dl_588 : decode code 588 = .ok (.aload_n 0, 1) := by decide +kernel
theorem dl_589 : decode code 589 = .ok (.iload 4, 2) := by decide +kernel
theorem dl_591 : decode code 591 = .ok (.iconst 1, 1) := by decide +kernel
theorem dl_592 : decode code 592 = .ok (.iadd, 1) := by decide +kernel
theorem dl_593 : decode code 593 = .ok (.iaload, 1) := by decide +kernel
theorem dl_594 : decode code 594 = .ok (.aload_n 0, 1) := by decide +kernel
theorem dl_595 : decode code 595 = .ok (.iload 4, 2) := by decide +kernel
theorem dl_597 : decode code 597 = .ok (.iconst 2, 1) := by decide +kernel
theorem dl_598 : decode code 598 = .ok (.iadd, 1) := by decide +kernel
theorem dl_599 : decode code 599 = .ok (.iaload, 1) := by decide +kernel
theorem dl_600 : decode code 600 = .ok (.invokevirtual 61, 3) := by decide +kernel
theorem dl_603 : decode code 603 = .ok (.aload_n 2, 1) := by decide +kernel
theorem dl_604 : decode code 604 = .ok (.aload_n 0, 1) := by decide +kernel
theorem dl_605 : decode code 605 = .ok (.iload 4, 2) := by decide +kernel
theorem dl_607 : decode code 607 = .ok (.iconst 1, 1) := by decide +kernel
theorem dl_608 : decode code 608 = .ok (.iadd, 1) := by decide +kernel
theorem dl_609 : decode code 609 = .ok (.iaload, 1) := by decide +kernel
theorem dl_610 : decode code 610 = .ok (.aload_n 0, 1) := by decide +kernel
theorem dl_611 : decode code 611 = .ok (.iload 4, 2) := by decide +kernel
theorem dl_613 : decode code 613 = .ok (.iconst 2, 1) := by decide +kernel
theorem dl_614 : decode code 614 = .ok (.iadd, 1) := by decide +kernel
theorem dl_615 : decode code 615 = .ok (.iaload, 1) := by decide +kernel
theorem dl_616 : decode code 616 = .ok (.invokevirtual 64, 3) := by decide +kernel
theorem dl_619 : decode code 619 = .ok (.if_icmp .eq 1186, 3) := by decide +kernel
theorem dl_622 : decode code 622 = .ok (.iconst 0, 1) := by decide +kernel
theorem dl_623 : decode code 623 = .ok (.ireturn, 1) := by decide +kernel
theorem dl_624 : decode code 624 = .ok (.aload_n 1, 1) := by decide +kernel
theorem dl_625 : decode code 625 = .ok (.invokevirtual 65, 3) := by decide +kernel
theorem dl_628 : decode code 628 = .ok (.aload_n 2, 1) := by decide +kernel
theorem dl_629 : decode code 629 = .ok (.invokevirtual 68, 3) := by decide +kernel
