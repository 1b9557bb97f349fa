theorem d_Law_law_521 : decode code 521 = .ok (.iconst 0, 1) := by decide +kernel
theorem d_Law_law_522 : decode code 522 = .ok (.ireturn, 1) := by decide +kernel
theorem d_Law_law_523 : decode code 523 = .ok (.goto 474, 3) := by decide +kernel
theorem d_Law_law_526 : decode code 526 = .ok (.aload_n 1, 1) := by decide +kernel
theorem d_Law_law_527 : decode code 527 = .ok (.aload_n 0, 1) := by decide +kernel
theorem d_Law_law_528 : decode code 528 = .ok (.iload 4, 2) := by decide +kernel
theorem d_Law_law_530 : decode code 530 = .ok (.iconst 1, 1) := by decide +kernel
theorem d_Law_law_531 : decode code 531 = .ok (.iadd, 1) := by decide +kernel
theorem d_Law_law_532 : decode code 532 = .ok (.iaload, 1) := by decide +kernel
theorem d_Law_law_533 : decode code 533 = .ok (.aload_n 0, 1) := by decide +kernel
theorem d_Law_law_534 : decode code 534 = .ok (.iload 4, 2) := by decide +kernel
theorem d_Law_law_536 : decode code 536 = .ok (.iconst 2, 1) := by decide +kernel
theorem d_Law_law_537 : decode code 537 = .ok (.iadd, 1) := by decide +kernel
theorem d_Law_law_538 : decode code 538 = .ok (.iaload, 1) := by decide +kernel
theorem d_Law_law_539 : decode code 539 = .ok (.ifCond .eq 7, 3) := by decide +kernel
theorem d_Law_law_542 : decode code 542 = .ok (.iconst 1, 1) := by decide +kernel
theorem d_Law_law_543 : decode code 543 = .ok (.goto 4, 3) := by decide +kernel
theorem d_Law_law_546 : decode code 546 = .ok (.iconst 0, 1) := by decide +kernel
theorem d_Law_law_547 : decode code 547 = .ok (.aload_n 3, 1) := by decide +kernel
theorem d_Law_law_548 : decode code 548 = .ok (.invokestatic 83, 3) := by decide +kernel
theorem d_Law_law_551 : decode code 551 = .ok (.istore 5, 2) := by decide +kernel
theorem d_Law_law_553 : decode code 553 = .ok (.aload_n 2, 1) := by decide +kernel
theorem d_Law_law_554 : decode code 554 = .ok (.aload_n 0, 1) := by decide +kernel
theorem d_Law_law_555 : decode code 555 = .ok (.iload 4, 2) := by decide +kernel
theorem d_Law_law_557 : decode code 557 = .ok (.iconst 1, 1) := by decide +kernel
theorem d_Law_law_558 : decode code 558 = .ok (.iadd, 1) := by decide +kernel
theorem d_Law_law_559 : decode code 559 = .ok (.iaload, 1) := by decide +kernel
theorem d_Law_law_560 : decode code 560 = .ok (.aload_n 0, 1) := by decide +kernel
theorem d_Law_law_561 : decode code 561 = .ok (.iload 4, 2) := by decide +kernel
theorem d_Law_law_563 : decode code 563 = .ok (.iconst 2, 1) := by decide +kernel
theorem d_Law_law_564 : decode code 564 = .ok (.iadd, 1) := by decide +kernel
theorem d_Law_law_565 : decode code 565 = .ok (.iaload, 1) := by decide +kernel
theorem d_Law_law_566 : decode code 566 = .ok (.ifCond .eq 7, 3) := by decide +kernel
theorem d_Law_law_569 : decode code 569 = .ok (.iconst 1, 1) := by decide +kernel
theorem d_Law_law_570 : decode code 570 = .ok (.goto 4, 3) := by decide +kernel
theorem d_Law_law_573 : decode code 573 = .ok (.iconst 0, 1) := by decide +kernel
theorem d_Law_law_574 : decode code 574 = .ok (.invokevirtual 86, 3) := by decide +kernel
theorem d_Law_law_577 : decode code 577 = .ok (.istore 6, 2) := by decide +kernel
theorem d_Law_law_579 : decode code 579 = .ok (.aload_n 2, 1) := by decide +kernel
theorem d_Law_law_580 : decode code 580 = .ok (.invokevirtual 68, 3) := by decide +kernel
theorem d_Law_law_583 : decode code 583 = .ok (.iload 5, 2) := by decide +kernel
theorem d_Law_law_585 : decode code 585 = .ok (.if_icmp .eq 5, 3) := by decide +kernel
theorem d_Law_law_588 : decode code 588 = .ok (.iconst 0, 1) := by decide +kernel
theorem d_Law_law_589 : decode code 589 = .ok (.ireturn, 1) := by decide +kernel
theorem d_Law_law_590 : decode code 590 = .ok (.iload 5, 2) := by decide +kernel
theorem d_Law_law_592 : decode code 592 = .ok (.ifCond .ne 15, 3) := by decide +kernel
theorem d_Law_law_595 : decode code 595 = .ok (.aload_n 3, 1) := by decide +kernel
theorem d_Law_law_596 : decode code 596 = .ok (.iconst 0, 1) := by decide +kernel
theorem d_Law_law_597 : decode code 597 = .ok (.laload, 1) := by decide +kernel
theorem d_Law_law_598 : decode code 598 = .ok (.iload 6, 2) := by decide +kernel
theorem d_Law_law_600 : decode code 600 = .ok (.i2l, 1) := by decide +kernel
theorem d_Law_law_601 : decode code 601 = .ok (.lcmp, 1) := by decide +kernel
theorem d_Law_law_602 : decode code 602 = .ok (.ifCond .eq 5, 3) := by decide +kernel
theorem d_Law_law_605 : decode code 605 = .ok (.iconst 0, 1) := by decide +kernel
theorem d_Law_law_606 : decode code 606 = .ok (.ireturn, 1) := by decide +kernel
theorem d_Law_law_607 : decode code 607 = .ok (.goto 390, 3) := by decide +kernel
theorem d_Law_law_610 : decode code 610 = .ok (.aload_n 1, 1) := by decide +kernel
theorem d_Law_law_611 : decode code 611 = .ok (.aload_n 0, 1) := by decide +kernel
theorem d_Law_law_612 : decode code 612 = .ok (.iload 4, 2) := by decide +kernel
theorem d_Law_law_614 : decode code 614 = .ok (.iconst 1, 1) := by decide +kernel
theorem d_Law_law_615 : decode code 615 = .ok (.iadd, 1) := by decide +kernel
theorem d_Law_law_616 : decode code 616 = .ok (.iaload, 1) := by decide +kernel
theorem d_Law_law_617 : decode code 617 = .ok (.aload_n 3, 1) := by decide +kernel
theorem d_Law_law_618 : decode code 618 = .ok (.invokestatic 87, 3) := by decide +kernel
theorem d_Law_law_621 : decode code 621 = .ok (.istore 5, 2) := by decide +kernel
theorem d_Law_law_623 : decode code 623 = .ok (.aload_n 2, 1) := by decide +kernel
theorem d_Law_law_624 : decode code 624 = .ok (.aload_n 0, 1) := by decide +kernel
theorem d_Law_law_625 : decode code 625 = .ok (.iload 4, 2) := by decide +kernel
theorem d_Law_law_627 : decode code 627 = .ok (.iconst 1, 1) := by decide +kernel
theorem d_Law_law_628 : decode code 628 = .ok (.iadd, 1) := by decide +kernel
theorem d_Law_law_629 : decode code 629 = .ok (.iaload, 1) := by decide +kernel
theorem d_Law_law_630 : decode code 630 = .ok (.invokevirtual 90, 3) := by decide +kernel
theorem d_Law_law_633 : decode code 633 = .ok (.istore 6, 2) := by decide +kernel
theorem d_Law_law_635 : decode code 635 = .ok (.aload_n 2, 1) := by decide +kernel
theorem d_Law_law_636 : decode code 636 = .ok (.invokevirtual 68, 3) := by decide +kernel
theorem d_Law_law_639 : decode code 639 = .ok (.iload 5, 2) := by decide +kernel
theorem d_Law_law_641 : decode code 641 = .ok (.if_icmp .eq 5, 3) := by decide +kernel
theorem d_Law_law_644 : decode code 644 = .ok (.iconst 0, 1) := by decide +kernel
theorem d_Law_law_645 : decode code 645 = .ok (.ireturn, 1) := by decide +kernel
theorem d_Law_law_646 : decode code 646 = .ok (.iload 5, 2) := by decide +kernel
theorem d_Law_law_648 : decode code 648 = .ok (.ifCond .ne 15, 3) := by decide +kernel
theorem d_Law_law_651 : decode code 651 = .ok (.aload_n 3, 1) := by decide +kernel
theorem d_Law_law_652 : decode code 652 = .ok (.iconst 0, 1) := by decide +kernel
theorem d_Law_law_653 : decode code 653 = .ok (.laload, 1) := by decide +kernel
theorem d_Law_law_654 : decode code 654 = .ok (.iload 6, 2) := by decide +kernel
theorem d_Law_law_656 : decode code 656 = .ok (.i2l, 1) := by decide +kernel
theorem d_Law_law_657 : decode code 657 = .ok (.lcmp, 1) := by decide +kernel
theorem d_Law_law_658 : decode code 658 = .ok (.ifCond .eq 5, 3) := by decide +kernel
theorem d_Law_law_661 : decode code 661 = .ok (.iconst 0, 1) := by decide +kernel
theorem d_Law_law_662 : decode code 662 = .ok (.ireturn, 1) := by decide +kernel
theorem d_Law_law_663 : decode code 663 = .ok (.goto 334, 3) := by decide +kernel
theorem d_Law_law_666 : decode code 666 = .ok (.aload_n 1, 1) := by decide +kernel
theorem d_Law_law_667 : decode code 667 = .ok (.aload_n 0, 1) := by decide +kernel
theorem d_Law_law_668 : decode code 668 = .ok (.iload 4, 2) := by decide +kernel
theorem d_Law_law_670 : decode code 670 = .ok (.iconst 1, 1) := by decide +kernel
theorem d_Law_law_671 : decode code 671 = .ok (.iadd, 1) := by decide +kernel
theorem d_Law_law_672 : decode code 672 = .ok (.iaload, 1) := by decide +kernel
theorem d_Law_law_673 : decode code 673 = .ok (.aload_n 3, 1) := by decide +kernel
theorem d_Law_law_674 : decode code 674 = .ok (.invokestatic 91, 3) := by decide +kernel
theorem d_Law_law_677 : decode code 677 = .ok (.istore 5, 2) := by decide +kernel
theorem d_Law_law_679 : decode code 679 = .ok (.aload_n 2, 1) := by decide +kernel
theorem d_Law_law_680 : decode code 680 = .ok (.aload_n 0, 1) := by decide +kernel
theorem d_Law_law_681 : decode code 681 = .ok (.iload 4, 2) := by decide +kernel
theorem d_Law_law_683 : decode code 683 = .ok (.iconst 1, 1) := by decide +kernel
theorem d_Law_law_684 : decode code 684 = .ok (.iadd, 1) := by decide +kernel
theorem d_Law_law_685 : decode code 685 = .ok (.iaload, 1) := by decide +kernel
theorem d_Law_law_686 : decode code 686 = .ok (.invokevirtual 93, 3) := by decide +kernel
theorem d_Law_law_689 : decode code 689 = .ok (.istore 6, 2) := by decide +kernel
theorem d_Law_law_691 : decode code 691 = .ok (.aload_n 2, 1) := by decide +kernel
theorem d_Law_law_692 : decode code 692 = .ok (.invokevirtual 68, 3) := by decide +kernel
theorem d_Law_law_695 : decode code 695 = .ok (.iload 5, 2) := by decide +kernel
theorem d_Law_law_697 : decode code 697 = .ok (.if_icmp .eq 5, 3) := by decide +kernel
theorem d_Law_law_700 : decode code 700 = .ok (.iconst 0, 1) := by decide +kernel
theorem d_Law_law_701 : decode code 701 = .ok (.ireturn, 1) := by decide +kernel
theorem d_Law_law_702 : decode code 702 = .ok (.iload 5, 2) := by decide +kernel
theorem d_Law_law_704 : decode code 704 = .ok (.ifCond .ne 15, 3) := by decide +kernel
theorem d_Law_law_707 : decode code 707 = .ok (.aload_n 3, 1) := by decide +kernel
theorem d_Law_law_708 : decode code 708 = .ok (.iconst 0, 1) := by decide +kernel
theorem d_Law_law_709 : decode code 709 = .ok (.laload, 1) := by decide +kernel
theorem d_Law_law_710 : decode code 710 = .ok (.iload 6, 2) := by decide +kernel
theorem d_Law_law_712 : decode code 712 = .ok (.i2l, 1) := by decide +kernel
theorem d_Law_law_713 : decode code 713 = .ok (.lcmp, 1) := by decide +kernel
theorem d_Law_law_714 : decode code 714 = .ok (.ifCond .eq 5, 3) := by decide +kernel
theorem d_Law_law_717 : decode code 717 = .ok (.iconst 0, 1) := by decide +kernel
theorem d_Law_law_718 : decode code 718 = .ok (.ireturn, 1) := by decide +kernel
theorem d_Law_law_719 : decode code 719 = .ok (.goto 278, 3) := by decide +kernel
theorem d_Law_law_722 : decode code 722 = .ok (.aload_n 1, 1) := by decide +kernel
theorem d_Law_law_723 : decode code 723 = .ok (.aload_n 0, 1) := by decide +kernel
theorem d_Law_law_724 : decode code 724 = .ok (.iload 4, 2) := by decide +kernel
theorem d_Law_law_726 : decode code 726 = .ok (.iconst 1, 1) := by decide +kernel
theorem d_Law_law_727 : decode code 727 = .ok (.iadd, 1) := by decide +kernel
theorem d_Law_law_728 : decode code 728 = .ok (.iaload, 1) := by decide +kernel
theorem d_Law_law_729 : decode code 729 = .ok (.aload_n 3, 1) := by decide +kernel
theorem d_Law_law_730 : decode code 730 = .ok (.invokestatic 94, 3) := by decide +kernel
theorem d_Law_law_733 : decode code 733 = .ok (.istore 5, 2) := by decide +kernel
theorem d_Law_law_735 : decode code 735 = .ok (.aload_n 2, 1) := by decide +kernel
theorem d_Law_law_736 : decode code 736 = .ok (.aload_n 0, 1) := by decide +kernel
theorem d_Law_law_737 : decode code 737 = .ok (.iload 4, 2) := by decide +kernel
theorem d_Law_law_739 : decode code 739 = .ok (.iconst 1, 1) := by decide +kernel
theorem d_Law_law_740 : decode code 740 = .ok (.iadd, 1) := by decide +kernel
theorem d_Law_law_741 : decode code 741 = .ok (.iaload, 1) := by decide +kernel
theorem d_Law_law_742 : decode code 742 = .ok (.invokevirtual 96, 3) := by decide +kernel
theorem d_Law_law_745 : decode code 745 = .ok (.istore 6, 2) := by decide +kernel
theorem d_Law_law_747 : decode code 747 = .ok (.aload_n 2, 1) := by decide +kernel
theorem d_Law_law_748 : decode code 748 = .ok (.invokevirtual 68, 3) := by decide +kernel
theorem d_Law_law_751 : decode code 751 = .ok (.iload 5, 2) := by decide +kernel
theorem d_Law_law_753 : decode code 753 = .ok (.if_icmp .eq 5, 3) := by decide +kernel
theorem d_Law_law_756 : decode code 756 = .ok (.iconst 0, 1) := by decide +kernel
theorem d_Law_law_757 : decode code 757 = .ok (.ireturn, 1) := by decide +kernel
theorem d_Law_law_758 : decode code 758 = .ok (.iload 5, 2) := by decide +kernel
theorem d_Law_law_760 : decode code 760 = .ok (.ifCond .ne 15, 3) := by decide +kernel
theorem d_Law_law_763 : decode code 763 = .ok (.aload_n 3, 1) := by decide +kernel
theorem d_Law_law_764 : decode code 764 = .ok (.iconst 0, 1) := by decide +kernel
theorem d_Law_law_765 : decode code 765 = .ok (.laload, 1) := by decide +kernel
