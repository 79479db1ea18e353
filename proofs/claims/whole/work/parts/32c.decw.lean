theorem kL_law_526 : decode mL_law.2.1 526 = .ok (.iconst 0, 1) := by decide +kernel
theorem kL_law_527 : decode mL_law.2.1 527 = .ok (.ireturn, 1) := by decide +kernel
theorem kL_law_528 : decode mL_law.2.1 528 = .ok (.goto 449, 3) := by decide +kernel
theorem kL_law_531 : decode mL_law.2.1 531 = .ok (.aload_n 1, 1) := by decide +kernel
theorem kL_law_532 : decode mL_law.2.1 532 = .ok (.aload_n 0, 1) := by decide +kernel
theorem kL_law_533 : decode mL_law.2.1 533 = .ok (.iload 4, 2) := by decide +kernel
theorem kL_law_535 : decode mL_law.2.1 535 = .ok (.iconst 1, 1) := by decide +kernel
theorem kL_law_536 : decode mL_law.2.1 536 = .ok (.iadd, 1) := by decide +kernel
theorem kL_law_537 : decode mL_law.2.1 537 = .ok (.iaload, 1) := by decide +kernel
theorem kL_law_538 : decode mL_law.2.1 538 = .ok (.aload_n 0, 1) := by decide +kernel
theorem kL_law_539 : decode mL_law.2.1 539 = .ok (.iload 4, 2) := by decide +kernel
theorem kL_law_541 : decode mL_law.2.1 541 = .ok (.iconst 2, 1) := by decide +kernel
theorem kL_law_542 : decode mL_law.2.1 542 = .ok (.iadd, 1) := by decide +kernel
theorem kL_law_543 : decode mL_law.2.1 543 = .ok (.iaload, 1) := by decide +kernel
theorem kL_law_544 : decode mL_law.2.1 544 = .ok (.aload_n 3, 1) := by decide +kernel
theorem kL_law_545 : decode mL_law.2.1 545 = .ok (.invokestatic 103, 3) := by decide +kernel
theorem kL_law_548 : decode mL_law.2.1 548 = .ok (.istore 5, 2) := by decide +kernel
theorem kL_law_550 : decode mL_law.2.1 550 = .ok (.aload_n 2, 1) := by decide +kernel
theorem kL_law_551 : decode mL_law.2.1 551 = .ok (.aload_n 0, 1) := by decide +kernel
theorem kL_law_552 : decode mL_law.2.1 552 = .ok (.iload 4, 2) := by decide +kernel
theorem kL_law_554 : decode mL_law.2.1 554 = .ok (.iconst 1, 1) := by decide +kernel
theorem kL_law_555 : decode mL_law.2.1 555 = .ok (.iadd, 1) := by decide +kernel
theorem kL_law_556 : decode mL_law.2.1 556 = .ok (.iaload, 1) := by decide +kernel
theorem kL_law_557 : decode mL_law.2.1 557 = .ok (.aload_n 0, 1) := by decide +kernel
theorem kL_law_558 : decode mL_law.2.1 558 = .ok (.iload 4, 2) := by decide +kernel
theorem kL_law_560 : decode mL_law.2.1 560 = .ok (.iconst 2, 1) := by decide +kernel
theorem kL_law_561 : decode mL_law.2.1 561 = .ok (.iadd, 1) := by decide +kernel
theorem kL_law_562 : decode mL_law.2.1 562 = .ok (.iaload, 1) := by decide +kernel
theorem kL_law_563 : decode mL_law.2.1 563 = .ok (.invokevirtual 105, 3) := by decide +kernel
theorem kL_law_566 : decode mL_law.2.1 566 = .ok (.istore 6, 2) := by decide +kernel
theorem kL_law_568 : decode mL_law.2.1 568 = .ok (.aload_n 2, 1) := by decide +kernel
theorem kL_law_569 : decode mL_law.2.1 569 = .ok (.invokevirtual 76, 3) := by decide +kernel
theorem kL_law_572 : decode mL_law.2.1 572 = .ok (.iload 5, 2) := by decide +kernel
theorem kL_law_574 : decode mL_law.2.1 574 = .ok (.if_icmp .eq 5, 3) := by decide +kernel
theorem kL_law_577 : decode mL_law.2.1 577 = .ok (.iconst 0, 1) := by decide +kernel
theorem kL_law_578 : decode mL_law.2.1 578 = .ok (.ireturn, 1) := by decide +kernel
theorem kL_law_579 : decode mL_law.2.1 579 = .ok (.iload 5, 2) := by decide +kernel
theorem kL_law_581 : decode mL_law.2.1 581 = .ok (.ifCond .ne 15, 3) := by decide +kernel
theorem kL_law_584 : decode mL_law.2.1 584 = .ok (.aload_n 3, 1) := by decide +kernel
theorem kL_law_585 : decode mL_law.2.1 585 = .ok (.iconst 0, 1) := by decide +kernel
theorem kL_law_586 : decode mL_law.2.1 586 = .ok (.laload, 1) := by decide +kernel
theorem kL_law_587 : decode mL_law.2.1 587 = .ok (.iload 6, 2) := by decide +kernel
theorem kL_law_589 : decode mL_law.2.1 589 = .ok (.i2l, 1) := by decide +kernel
theorem kL_law_590 : decode mL_law.2.1 590 = .ok (.lcmp, 1) := by decide +kernel
theorem kL_law_591 : decode mL_law.2.1 591 = .ok (.ifCond .eq 5, 3) := by decide +kernel
theorem kL_law_594 : decode mL_law.2.1 594 = .ok (.iconst 0, 1) := by decide +kernel
theorem kL_law_595 : decode mL_law.2.1 595 = .ok (.ireturn, 1) := by decide +kernel
theorem kL_law_596 : decode mL_law.2.1 596 = .ok (.goto 381, 3) := by decide +kernel
theorem kL_law_599 : decode mL_law.2.1 599 = .ok (.aload_n 1, 1) := by decide +kernel
theorem kL_law_600 : decode mL_law.2.1 600 = .ok (.aload_n 0, 1) := by decide +kernel
theorem kL_law_601 : decode mL_law.2.1 601 = .ok (.iload 4, 2) := by decide +kernel
theorem kL_law_603 : decode mL_law.2.1 603 = .ok (.iconst 1, 1) := by decide +kernel
theorem kL_law_604 : decode mL_law.2.1 604 = .ok (.iadd, 1) := by decide +kernel
theorem kL_law_605 : decode mL_law.2.1 605 = .ok (.iaload, 1) := by decide +kernel
theorem kL_law_606 : decode mL_law.2.1 606 = .ok (.aload_n 3, 1) := by decide +kernel
theorem kL_law_607 : decode mL_law.2.1 607 = .ok (.invokestatic 106, 3) := by decide +kernel
theorem kL_law_610 : decode mL_law.2.1 610 = .ok (.istore 5, 2) := by decide +kernel
theorem kL_law_612 : decode mL_law.2.1 612 = .ok (.aload_n 2, 1) := by decide +kernel
theorem kL_law_613 : decode mL_law.2.1 613 = .ok (.aload_n 0, 1) := by decide +kernel
theorem kL_law_614 : decode mL_law.2.1 614 = .ok (.iload 4, 2) := by decide +kernel
theorem kL_law_616 : decode mL_law.2.1 616 = .ok (.iconst 1, 1) := by decide +kernel
theorem kL_law_617 : decode mL_law.2.1 617 = .ok (.iadd, 1) := by decide +kernel
theorem kL_law_618 : decode mL_law.2.1 618 = .ok (.iaload, 1) := by decide +kernel
theorem kL_law_619 : decode mL_law.2.1 619 = .ok (.invokevirtual 108, 3) := by decide +kernel
theorem kL_law_622 : decode mL_law.2.1 622 = .ok (.istore 6, 2) := by decide +kernel
theorem kL_law_624 : decode mL_law.2.1 624 = .ok (.aload_n 2, 1) := by decide +kernel
theorem kL_law_625 : decode mL_law.2.1 625 = .ok (.invokevirtual 76, 3) := by decide +kernel
theorem kL_law_628 : decode mL_law.2.1 628 = .ok (.iload 5, 2) := by decide +kernel
theorem kL_law_630 : decode mL_law.2.1 630 = .ok (.if_icmp .eq 5, 3) := by decide +kernel
theorem kL_law_633 : decode mL_law.2.1 633 = .ok (.iconst 0, 1) := by decide +kernel
theorem kL_law_634 : decode mL_law.2.1 634 = .ok (.ireturn, 1) := by decide +kernel
theorem kL_law_635 : decode mL_law.2.1 635 = .ok (.iload 5, 2) := by decide +kernel
theorem kL_law_637 : decode mL_law.2.1 637 = .ok (.ifCond .ne 15, 3) := by decide +kernel
theorem kL_law_640 : decode mL_law.2.1 640 = .ok (.aload_n 3, 1) := by decide +kernel
theorem kL_law_641 : decode mL_law.2.1 641 = .ok (.iconst 0, 1) := by decide +kernel
theorem kL_law_642 : decode mL_law.2.1 642 = .ok (.laload, 1) := by decide +kernel
theorem kL_law_643 : decode mL_law.2.1 643 = .ok (.iload 6, 2) := by decide +kernel
theorem kL_law_645 : decode mL_law.2.1 645 = .ok (.i2l, 1) := by decide +kernel
theorem kL_law_646 : decode mL_law.2.1 646 = .ok (.lcmp, 1) := by decide +kernel
theorem kL_law_647 : decode mL_law.2.1 647 = .ok (.ifCond .eq 5, 3) := by decide +kernel
theorem kL_law_650 : decode mL_law.2.1 650 = .ok (.iconst 0, 1) := by decide +kernel
theorem kL_law_651 : decode mL_law.2.1 651 = .ok (.ireturn, 1) := by decide +kernel
theorem kL_law_652 : decode mL_law.2.1 652 = .ok (.goto 325, 3) := by decide +kernel
theorem kL_law_655 : decode mL_law.2.1 655 = .ok (.aload_n 1, 1) := by decide +kernel
theorem kL_law_656 : decode mL_law.2.1 656 = .ok (.aload_n 0, 1) := by decide +kernel
theorem kL_law_657 : decode mL_law.2.1 657 = .ok (.iload 4, 2) := by decide +kernel
theorem kL_law_659 : decode mL_law.2.1 659 = .ok (.iconst 1, 1) := by decide +kernel
theorem kL_law_660 : decode mL_law.2.1 660 = .ok (.iadd, 1) := by decide +kernel
theorem kL_law_661 : decode mL_law.2.1 661 = .ok (.iaload, 1) := by decide +kernel
theorem kL_law_662 : decode mL_law.2.1 662 = .ok (.invokestatic 109, 3) := by decide +kernel
theorem kL_law_665 : decode mL_law.2.1 665 = .ok (.istore 5, 2) := by decide +kernel
theorem kL_law_667 : decode mL_law.2.1 667 = .ok (.aload_n 2, 1) := by decide +kernel
theorem kL_law_668 : decode mL_law.2.1 668 = .ok (.aload_n 0, 1) := by decide +kernel
theorem kL_law_669 : decode mL_law.2.1 669 = .ok (.iload 4, 2) := by decide +kernel
theorem kL_law_671 : decode mL_law.2.1 671 = .ok (.iconst 1, 1) := by decide +kernel
theorem kL_law_672 : decode mL_law.2.1 672 = .ok (.iadd, 1) := by decide +kernel
theorem kL_law_673 : decode mL_law.2.1 673 = .ok (.iaload, 1) := by decide +kernel
theorem kL_law_674 : decode mL_law.2.1 674 = .ok (.invokevirtual 112, 3) := by decide +kernel
theorem kL_law_677 : decode mL_law.2.1 677 = .ok (.aload_n 2, 1) := by decide +kernel
theorem kL_law_678 : decode mL_law.2.1 678 = .ok (.invokevirtual 76, 3) := by decide +kernel
theorem kL_law_681 : decode mL_law.2.1 681 = .ok (.iload 5, 2) := by decide +kernel
theorem kL_law_683 : decode mL_law.2.1 683 = .ok (.if_icmp .eq 5, 3) := by decide +kernel
theorem kL_law_686 : decode mL_law.2.1 686 = .ok (.iconst 0, 1) := by decide +kernel
theorem kL_law_687 : decode mL_law.2.1 687 = .ok (.ireturn, 1) := by decide +kernel
theorem kL_law_688 : decode mL_law.2.1 688 = .ok (.goto 289, 3) := by decide +kernel
theorem kL_law_691 : decode mL_law.2.1 691 = .ok (.aload_n 1, 1) := by decide +kernel
theorem kL_law_692 : decode mL_law.2.1 692 = .ok (.invokevirtual 113, 3) := by decide +kernel
theorem kL_law_695 : decode mL_law.2.1 695 = .ok (.aload_n 2, 1) := by decide +kernel
theorem kL_law_696 : decode mL_law.2.1 696 = .ok (.invokevirtual 116, 3) := by decide +kernel
theorem kL_law_699 : decode mL_law.2.1 699 = .ok (.if_icmp .eq 278, 3) := by decide +kernel
theorem kL_law_702 : decode mL_law.2.1 702 = .ok (.iconst 0, 1) := by decide +kernel
theorem kL_law_703 : decode mL_law.2.1 703 = .ok (.ireturn, 1) := by decide +kernel
theorem kL_law_704 : decode mL_law.2.1 704 = .ok (.aload_n 1, 1) := by decide +kernel
theorem kL_law_705 : decode mL_law.2.1 705 = .ok (.invokevirtual 117, 3) := by decide +kernel
theorem kL_law_708 : decode mL_law.2.1 708 = .ok (.aload_n 2, 1) := by decide +kernel
theorem kL_law_709 : decode mL_law.2.1 709 = .ok (.invokevirtual 120, 3) := by decide +kernel
theorem kL_law_712 : decode mL_law.2.1 712 = .ok (.if_icmp .eq 265, 3) := by decide +kernel
theorem kL_law_715 : decode mL_law.2.1 715 = .ok (.iconst 0, 1) := by decide +kernel
theorem kL_law_716 : decode mL_law.2.1 716 = .ok (.ireturn, 1) := by decide +kernel
theorem kL_law_717 : decode mL_law.2.1 717 = .ok (.aload_n 1, 1) := by decide +kernel
theorem kL_law_718 : decode mL_law.2.1 718 = .ok (.invokevirtual 121, 3) := by decide +kernel
theorem kL_law_721 : decode mL_law.2.1 721 = .ok (.aload_n 2, 1) := by decide +kernel
theorem kL_law_722 : decode mL_law.2.1 722 = .ok (.invokevirtual 124, 3) := by decide +kernel
theorem kL_law_725 : decode mL_law.2.1 725 = .ok (.if_icmp .eq 252, 3) := by decide +kernel
theorem kL_law_728 : decode mL_law.2.1 728 = .ok (.iconst 0, 1) := by decide +kernel
theorem kL_law_729 : decode mL_law.2.1 729 = .ok (.ireturn, 1) := by decide +kernel
theorem kL_law_730 : decode mL_law.2.1 730 = .ok (.aload_n 1, 1) := by decide +kernel
theorem kL_law_731 : decode mL_law.2.1 731 = .ok (.aload_n 0, 1) := by decide +kernel
theorem kL_law_732 : decode mL_law.2.1 732 = .ok (.iload 4, 2) := by decide +kernel
theorem kL_law_734 : decode mL_law.2.1 734 = .ok (.iconst 1, 1) := by decide +kernel
theorem kL_law_735 : decode mL_law.2.1 735 = .ok (.iadd, 1) := by decide +kernel
theorem kL_law_736 : decode mL_law.2.1 736 = .ok (.iaload, 1) := by decide +kernel
theorem kL_law_737 : decode mL_law.2.1 737 = .ok (.aload_n 3, 1) := by decide +kernel
theorem kL_law_738 : decode mL_law.2.1 738 = .ok (.invokestatic 125, 3) := by decide +kernel
theorem kL_law_741 : decode mL_law.2.1 741 = .ok (.istore 5, 2) := by decide +kernel
theorem kL_law_743 : decode mL_law.2.1 743 = .ok (.aload_n 2, 1) := by decide +kernel
theorem kL_law_744 : decode mL_law.2.1 744 = .ok (.aload_n 0, 1) := by decide +kernel
theorem kL_law_745 : decode mL_law.2.1 745 = .ok (.iload 4, 2) := by decide +kernel
theorem kL_law_747 : decode mL_law.2.1 747 = .ok (.iconst 1, 1) := by decide +kernel
theorem kL_law_748 : decode mL_law.2.1 748 = .ok (.iadd, 1) := by decide +kernel
theorem kL_law_749 : decode mL_law.2.1 749 = .ok (.iaload, 1) := by decide +kernel
theorem kL_law_750 : decode mL_law.2.1 750 = .ok (.invokevirtual 127, 3) := by decide +kernel
theorem kL_law_753 : decode mL_law.2.1 753 = .ok (.istore 6, 2) := by decide +kernel
theorem kL_law_755 : decode mL_law.2.1 755 = .ok (.aload_n 2, 1) := by decide +kernel
theorem kL_law_756 : decode mL_law.2.1 756 = .ok (.invokevirtual 76, 3) := by decide +kernel
