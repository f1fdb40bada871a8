theorem dL_520 : decode code 520 = .ok (.iaload, 1) := by decide +kernel
theorem dL_521 : decode code 521 = .ok (.invokevirtual 74, 3) := by decide +kernel
theorem dL_524 : decode code 524 = .ok (.aload_n 2, 1) := by decide +kernel
theorem dL_525 : decode code 525 = .ok (.aload_n 0, 1) := by decide +kernel
theorem dL_526 : decode code 526 = .ok (.iload_n 3, 1) := by decide +kernel
theorem dL_527 : decode code 527 = .ok (.iconst 1, 1) := by decide +kernel
theorem dL_528 : decode code 528 = .ok (.iadd, 1) := by decide +kernel
theorem dL_529 : decode code 529 = .ok (.iaload, 1) := by decide +kernel
theorem dL_530 : decode code 530 = .ok (.aload_n 0, 1) := by decide +kernel
theorem dL_531 : decode code 531 = .ok (.iload_n 3, 1) := by decide +kernel
theorem dL_532 : decode code 532 = .ok (.iconst 2, 1) := by decide +kernel
theorem dL_533 : decode code 533 = .ok (.iadd, 1) := by decide +kernel
theorem dL_534 : decode code 534 = .ok (.iaload, 1) := by decide +kernel
theorem dL_535 : decode code 535 = .ok (.invokevirtual 77, 3) := by decide +kernel
theorem dL_538 : decode code 538 = .ok (.if_icmp .eq 111, 3) := by decide +kernel
theorem dL_541 : decode code 541 = .ok (.iconst 0, 1) := by decide +kernel
theorem dL_542 : decode code 542 = .ok (.ireturn, 1) := by decide +kernel
theorem dL_543 : decode code 543 = .ok (.aload_n 1, 1) := by decide +kernel
theorem dL_544 : decode code 544 = .ok (.aload_n 0, 1) := by decide +kernel
theorem dL_545 : decode code 545 = .ok (.iload_n 3, 1) := by decide +kernel
theorem dL_546 : decode code 546 = .ok (.iconst 1, 1) := by decide +kernel
theorem dL_547 : decode code 547 = .ok (.iadd, 1) := by decide +kernel
theorem dL_548 : decode code 548 = .ok (.iaload, 1) := by decide +kernel
theorem dL_549 : decode code 549 = .ok (.invokevirtual 78, 3) := by decide +kernel
theorem dL_552 : decode code 552 = .ok (.aload_n 2, 1) := by decide +kernel
theorem dL_553 : decode code 553 = .ok (.aload_n 0, 1) := by decide +kernel
theorem dL_554 : decode code 554 = .ok (.iload_n 3, 1) := by decide +kernel
theorem dL_555 : decode code 555 = .ok (.iconst 1, 1) := by decide +kernel
theorem dL_556 : decode code 556 = .ok (.iadd, 1) := by decide +kernel
theorem dL_557 : decode code 557 = .ok (.iaload, 1) := by decide +kernel
theorem dL_558 : decode code 558 = .ok (.invokevirtual 82, 3) := by decide +kernel
theorem dL_561 : decode code 561 = .ok (.lcmp, 1) := by decide +kernel
theorem dL_562 : decode code 562 = .ok (.ifCond .eq 87, 3) := by decide +kernel
theorem dL_565 : decode code 565 = .ok (.iconst 0, 1) := by decide +kernel
theorem dL_566 : decode code 566 = .ok (.ireturn, 1) := by decide +kernel
theorem dL_567 : decode code 567 = .ok (.aload_n 1, 1) := by decide +kernel
theorem dL_568 : decode code 568 = .ok (.aload_n 0, 1) := by decide +kernel
theorem dL_569 : decode code 569 = .ok (.iload_n 3, 1) := by decide +kernel
theorem dL_570 : decode code 570 = .ok (.iconst 1, 1) := by decide +kernel
theorem dL_571 : decode code 571 = .ok (.iadd, 1) := by decide +kernel
theorem dL_572 : decode code 572 = .ok (.iaload, 1) := by decide +kernel
theorem dL_573 : decode code 573 = .ok (.invokevirtual 83, 3) := by decide +kernel
theorem dL_576 : decode code 576 = .ok (.aload_n 2, 1) := by decide +kernel
theorem dL_577 : decode code 577 = .ok (.aload_n 0, 1) := by decide +kernel
theorem dL_578 : decode code 578 = .ok (.iload_n 3, 1) := by decide +kernel
theorem dL_579 : decode code 579 = .ok (.iconst 1, 1) := by decide +kernel
theorem dL_580 : decode code 580 = .ok (.iadd, 1) := by decide +kernel
theorem dL_581 : decode code 581 = .ok (.iaload, 1) := by decide +kernel
theorem dL_582 : decode code 582 = .ok (.invokevirtual 86, 3) := by decide +kernel
theorem dL_585 : decode code 585 = .ok (.if_icmp .eq 64, 3) := by decide +kernel
theorem dL_588 : decode code 588 = .ok (.iconst 0, 1) := by decide +kernel
theorem dL_589 : decode code 589 = .ok (.ireturn, 1) := by decide +kernel
theorem dL_590 : decode code 590 = .ok (.aload_n 1, 1) := by decide +kernel
theorem dL_591 : decode code 591 = .ok (.aload_n 0, 1) := by decide +kernel
theorem dL_592 : decode code 592 = .ok (.iload_n 3, 1) := by decide +kernel
theorem dL_593 : decode code 593 = .ok (.iconst 1, 1) := by decide +kernel
theorem dL_594 : decode code 594 = .ok (.iadd, 1) := by decide +kernel
theorem dL_595 : decode code 595 = .ok (.iaload, 1) := by decide +kernel
theorem dL_596 : decode code 596 = .ok (.aload_n 0, 1) := by decide +kernel
theorem dL_597 : decode code 597 = .ok (.iload_n 3, 1) := by decide +kernel
theorem dL_598 : decode code 598 = .ok (.iconst 2, 1) := by decide +kernel
theorem dL_599 : decode code 599 = .ok (.iadd, 1) := by decide +kernel
theorem dL_600 : decode code 600 = .ok (.iaload, 1) := by decide +kernel
theorem dL_601 : decode code 601 = .ok (.invokevirtual 87, 3) := by decide +kernel
theorem dL_604 : decode code 604 = .ok (.aload_n 2, 1) := by decide +kernel
theorem dL_605 : decode code 605 = .ok (.aload_n 0, 1) := by decide +kernel
theorem dL_606 : decode code 606 = .ok (.iload_n 3, 1) := by decide +kernel
theorem dL_607 : decode code 607 = .ok (.iconst 1, 1) := by decide +kernel
theorem dL_608 : decode code 608 = .ok (.iadd, 1) := by decide +kernel
theorem dL_609 : decode code 609 = .ok (.iaload, 1) := by decide +kernel
theorem dL_610 : decode code 610 = .ok (.aload_n 0, 1) := by decide +kernel
theorem dL_611 : decode code 611 = .ok (.iload_n 3, 1) := by decide +kernel
theorem dL_612 : decode code 612 = .ok (.iconst 2, 1) := by decide +kernel
theorem dL_613 : decode code 613 = .ok (.iadd, 1) := by decide +kernel
theorem dL_614 : decode code 614 = .ok (.iaload, 1) := by decide +kernel
theorem dL_615 : decode code 615 = .ok (.invokevirtual 90, 3) := by decide +kernel
theorem dL_618 : decode code 618 = .ok (.if_icmp .eq 31, 3) := by decide +kernel
theorem dL_621 : decode code 621 = .ok (.iconst 0, 1) := by decide +kernel
theorem dL_622 : decode code 622 = .ok (.ireturn, 1) := by decide +kernel
theorem dL_623 : decode code 623 = .ok (.aload_n 1, 1) := by decide +kernel
theorem dL_624 : decode code 624 = .ok (.invokevirtual 91, 3) := by decide +kernel
theorem dL_627 : decode code 627 = .ok (.aload_n 2, 1) := by decide +kernel
theorem dL_628 : decode code 628 = .ok (.invokevirtual 94, 3) := by decide +kernel
theorem dL_631 : decode code 631 = .ok (.if_icmp .eq 18, 3) := by decide +kernel
theorem dL_634 : decode code 634 = .ok (.iconst 0, 1) := by decide +kernel
theorem dL_635 : decode code 635 = .ok (.ireturn, 1) := by decide +kernel
theorem dL_636 : decode code 636 = .ok (.aload_n 1, 1) := by decide +kernel
theorem dL_637 : decode code 637 = .ok (.invokevirtual 95, 3) := by decide +kernel
theorem dL_640 : decode code 640 = .ok (.aload_n 2, 1) := by decide +kernel
theorem dL_641 : decode code 641 = .ok (.invokevirtual 98, 3) := by decide +kernel
theorem dL_644 : decode code 644 = .ok (.if_icmp .eq 5, 3) := by decide +kernel
theorem dL_647 : decode code 647 = .ok (.iconst 0, 1) := by decide +kernel
theorem dL_648 : decode code 648 = .ok (.ireturn, 1) := by decide +kernel
theorem dL_649 : decode code 649 = .ok (.iinc 3 4, 3) := by decide +kernel
theorem dL_652 : decode code 652 = .ok (.goto (-634), 3) := by decide +kernel
theorem dL_655 : decode code 655 = .ok (.iconst 1, 1) := by decide +kernel
theorem dL_656 : decode code 656 = .ok (.ireturn, 1) := by decide +kernel
