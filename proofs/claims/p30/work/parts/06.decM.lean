theorem dL_same_448 : decode cL_same 448 = .ok (.if_icmp .le 13, 3) := by decide +kernel
theorem dL_same_451 : decode cL_same 451 = .ok (.iload 10, 2) := by decide +kernel
theorem dL_same_453 : decode cL_same 453 = .ok (.bipush 10, 2) := by decide +kernel
theorem dL_same_455 : decode cL_same 455 = .ok (.imul, 1) := by decide +kernel
theorem dL_same_456 : decode cL_same 456 = .ok (.istore 10, 2) := by decide +kernel
theorem dL_same_458 : decode cL_same 458 = .ok (.goto (-22), 3) := by decide +kernel
theorem dL_same_461 : decode cL_same 461 = .ok (.iload 10, 2) := by decide +kernel
theorem dL_same_463 : decode cL_same 463 = .ok (.ifCond .le 45, 3) := by decide +kernel
theorem dL_same_466 : decode cL_same 466 = .ok (.aload_n 0, 1) := by decide +kernel
theorem dL_same_467 : decode cL_same 467 = .ok (.iload 8, 2) := by decide +kernel
theorem dL_same_469 : decode cL_same 469 = .ok (.iload 9, 2) := by decide +kernel
theorem dL_same_471 : decode cL_same 471 = .ok (.iinc 9 1, 3) := by decide +kernel
theorem dL_same_474 : decode cL_same 474 = .ok (.invokevirtual 83, 3) := by decide +kernel
theorem dL_same_477 : decode cL_same 477 = .ok (.bipush 48, 2) := by decide +kernel
theorem dL_same_479 : decode cL_same 479 = .ok (.aload 6, 2) := by decide +kernel
theorem dL_same_481 : decode cL_same 481 = .ok (.iconst 3, 1) := by decide +kernel
theorem dL_same_482 : decode cL_same 482 = .ok (.iload 8, 2) := by decide +kernel
theorem dL_same_484 : decode cL_same 484 = .ok (.imul, 1) := by decide +kernel
theorem dL_same_485 : decode cL_same 485 = .ok (.iaload, 1) := by decide +kernel
theorem dL_same_486 : decode cL_same 486 = .ok (.iload 10, 2) := by decide +kernel
theorem dL_same_488 : decode cL_same 488 = .ok (.idiv, 1) := by decide +kernel
theorem dL_same_489 : decode cL_same 489 = .ok (.bipush 10, 2) := by decide +kernel
theorem dL_same_491 : decode cL_same 491 = .ok (.irem, 1) := by decide +kernel
theorem dL_same_492 : decode cL_same 492 = .ok (.iadd, 1) := by decide +kernel
theorem dL_same_493 : decode cL_same 493 = .ok (.if_icmp .eq 5, 3) := by decide +kernel
theorem dL_same_496 : decode cL_same 496 = .ok (.iconst 0, 1) := by decide +kernel
theorem dL_same_497 : decode cL_same 497 = .ok (.ireturn, 1) := by decide +kernel
theorem dL_same_498 : decode cL_same 498 = .ok (.iload 10, 2) := by decide +kernel
theorem dL_same_500 : decode cL_same 500 = .ok (.bipush 10, 2) := by decide +kernel
theorem dL_same_502 : decode cL_same 502 = .ok (.idiv, 1) := by decide +kernel
theorem dL_same_503 : decode cL_same 503 = .ok (.istore 10, 2) := by decide +kernel
theorem dL_same_505 : decode cL_same 505 = .ok (.goto (-44), 3) := by decide +kernel
theorem dL_same_508 : decode cL_same 508 = .ok (.aload_n 0, 1) := by decide +kernel
theorem dL_same_509 : decode cL_same 509 = .ok (.iload 8, 2) := by decide +kernel
theorem dL_same_511 : decode cL_same 511 = .ok (.iload 9, 2) := by decide +kernel
theorem dL_same_513 : decode cL_same 513 = .ok (.iinc 9 1, 3) := by decide +kernel
theorem dL_same_516 : decode cL_same 516 = .ok (.invokevirtual 83, 3) := by decide +kernel
theorem dL_same_519 : decode cL_same 519 = .ok (.bipush 32, 2) := by decide +kernel
theorem dL_same_521 : decode cL_same 521 = .ok (.if_icmp .eq 5, 3) := by decide +kernel
theorem dL_same_524 : decode cL_same 524 = .ok (.iconst 0, 1) := by decide +kernel
theorem dL_same_525 : decode cL_same 525 = .ok (.ireturn, 1) := by decide +kernel
theorem dL_same_526 : decode cL_same 526 = .ok (.iconst 0, 1) := by decide +kernel
theorem dL_same_527 : decode cL_same 527 = .ok (.istore 11, 2) := by decide +kernel
theorem dL_same_529 : decode cL_same 529 = .ok (.aload 6, 2) := by decide +kernel
theorem dL_same_531 : decode cL_same 531 = .ok (.iconst 3, 1) := by decide +kernel
theorem dL_same_532 : decode cL_same 532 = .ok (.iload 8, 2) := by decide +kernel
theorem dL_same_534 : decode cL_same 534 = .ok (.imul, 1) := by decide +kernel
theorem dL_same_535 : decode cL_same 535 = .ok (.iconst 1, 1) := by decide +kernel
theorem dL_same_536 : decode cL_same 536 = .ok (.iadd, 1) := by decide +kernel
theorem dL_same_537 : decode cL_same 537 = .ok (.iaload, 1) := by decide +kernel
theorem dL_same_538 : decode cL_same 538 = .ok (.iload 11, 2) := by decide +kernel
theorem dL_same_540 : decode cL_same 540 = .ok (.invokestatic 86, 3) := by decide +kernel
theorem dL_same_543 : decode cL_same 543 = .ok (.ifCond .le 39, 3) := by decide +kernel
theorem dL_same_546 : decode cL_same 546 = .ok (.aload_n 0, 1) := by decide +kernel
theorem dL_same_547 : decode cL_same 547 = .ok (.iload 8, 2) := by decide +kernel
theorem dL_same_549 : decode cL_same 549 = .ok (.iload 9, 2) := by decide +kernel
theorem dL_same_551 : decode cL_same 551 = .ok (.iinc 9 1, 3) := by decide +kernel
theorem dL_same_554 : decode cL_same 554 = .ok (.invokevirtual 83, 3) := by decide +kernel
theorem dL_same_557 : decode cL_same 557 = .ok (.aload 6, 2) := by decide +kernel
theorem dL_same_559 : decode cL_same 559 = .ok (.iconst 3, 1) := by decide +kernel
theorem dL_same_560 : decode cL_same 560 = .ok (.iload 8, 2) := by decide +kernel
theorem dL_same_562 : decode cL_same 562 = .ok (.imul, 1) := by decide +kernel
theorem dL_same_563 : decode cL_same 563 = .ok (.iconst 1, 1) := by decide +kernel
theorem dL_same_564 : decode cL_same 564 = .ok (.iadd, 1) := by decide +kernel
theorem dL_same_565 : decode cL_same 565 = .ok (.iaload, 1) := by decide +kernel
theorem dL_same_566 : decode cL_same 566 = .ok (.iload 11, 2) := by decide +kernel
theorem dL_same_568 : decode cL_same 568 = .ok (.invokestatic 86, 3) := by decide +kernel
theorem dL_same_571 : decode cL_same 571 = .ok (.if_icmp .eq 5, 3) := by decide +kernel
theorem dL_same_574 : decode cL_same 574 = .ok (.iconst 0, 1) := by decide +kernel
theorem dL_same_575 : decode cL_same 575 = .ok (.ireturn, 1) := by decide +kernel
theorem dL_same_576 : decode cL_same 576 = .ok (.iinc 11 1, 3) := by decide +kernel
theorem dL_same_579 : decode cL_same 579 = .ok (.goto (-50), 3) := by decide +kernel
theorem dL_same_582 : decode cL_same 582 = .ok (.aload_n 0, 1) := by decide +kernel
theorem dL_same_583 : decode cL_same 583 = .ok (.iload 8, 2) := by decide +kernel
theorem dL_same_585 : decode cL_same 585 = .ok (.iload 9, 2) := by decide +kernel
theorem dL_same_587 : decode cL_same 587 = .ok (.invokevirtual 83, 3) := by decide +kernel
theorem dL_same_590 : decode cL_same 590 = .ok (.bipush 32, 2) := by decide +kernel
theorem dL_same_592 : decode cL_same 592 = .ok (.if_icmp .ne 56, 3) := by decide +kernel
theorem dL_same_595 : decode cL_same 595 = .ok (.aload_n 0, 1) := by decide +kernel
theorem dL_same_596 : decode cL_same 596 = .ok (.iload 8, 2) := by decide +kernel
theorem dL_same_598 : decode cL_same 598 = .ok (.iload 9, 2) := by decide +kernel
theorem dL_same_600 : decode cL_same 600 = .ok (.iconst 1, 1) := by decide +kernel
theorem dL_same_601 : decode cL_same 601 = .ok (.iadd, 1) := by decide +kernel
theorem dL_same_602 : decode cL_same 602 = .ok (.invokevirtual 83, 3) := by decide +kernel
theorem dL_same_605 : decode cL_same 605 = .ok (.bipush 48, 2) := by decide +kernel
theorem dL_same_607 : decode cL_same 607 = .ok (.aload 6, 2) := by decide +kernel
theorem dL_same_609 : decode cL_same 609 = .ok (.iconst 3, 1) := by decide +kernel
theorem dL_same_610 : decode cL_same 610 = .ok (.iload 8, 2) := by decide +kernel
theorem dL_same_612 : decode cL_same 612 = .ok (.imul, 1) := by decide +kernel
theorem dL_same_613 : decode cL_same 613 = .ok (.iconst 2, 1) := by decide +kernel
theorem dL_same_614 : decode cL_same 614 = .ok (.iadd, 1) := by decide +kernel
theorem dL_same_615 : decode cL_same 615 = .ok (.iaload, 1) := by decide +kernel
theorem dL_same_616 : decode cL_same 616 = .ok (.iadd, 1) := by decide +kernel
theorem dL_same_617 : decode cL_same 617 = .ok (.if_icmp .ne 31, 3) := by decide +kernel
theorem dL_same_620 : decode cL_same 620 = .ok (.aload_n 0, 1) := by decide +kernel
theorem dL_same_621 : decode cL_same 621 = .ok (.iload 8, 2) := by decide +kernel
theorem dL_same_623 : decode cL_same 623 = .ok (.iload 9, 2) := by decide +kernel
theorem dL_same_625 : decode cL_same 625 = .ok (.iconst 2, 1) := by decide +kernel
theorem dL_same_626 : decode cL_same 626 = .ok (.iadd, 1) := by decide +kernel
theorem dL_same_627 : decode cL_same 627 = .ok (.invokevirtual 83, 3) := by decide +kernel
theorem dL_same_630 : decode cL_same 630 = .ok (.iconst (-1), 1) := by decide +kernel
theorem dL_same_631 : decode cL_same 631 = .ok (.if_icmp .ne 17, 3) := by decide +kernel
theorem dL_same_634 : decode cL_same 634 = .ok (.aload_n 0, 1) := by decide +kernel
theorem dL_same_635 : decode cL_same 635 = .ok (.iload 8, 2) := by decide +kernel
theorem dL_same_637 : decode cL_same 637 = .ok (.iconst 3, 1) := by decide +kernel
theorem dL_same_638 : decode cL_same 638 = .ok (.invokevirtual 80, 3) := by decide +kernel
theorem dL_same_641 : decode cL_same 641 = .ok (.iload 9, 2) := by decide +kernel
theorem dL_same_643 : decode cL_same 643 = .ok (.iconst 2, 1) := by decide +kernel
theorem dL_same_644 : decode cL_same 644 = .ok (.iadd, 1) := by decide +kernel
theorem dL_same_645 : decode cL_same 645 = .ok (.if_icmp .eq 5, 3) := by decide +kernel
theorem dL_same_648 : decode cL_same 648 = .ok (.iconst 0, 1) := by decide +kernel
theorem dL_same_649 : decode cL_same 649 = .ok (.ireturn, 1) := by decide +kernel
theorem dL_same_650 : decode cL_same 650 = .ok (.iinc 8 1, 3) := by decide +kernel
theorem dL_same_653 : decode cL_same 653 = .ok (.goto (-268), 3) := by decide +kernel
theorem dL_same_656 : decode cL_same 656 = .ok (.iload_n 1, 1) := by decide +kernel
theorem dL_same_657 : decode cL_same 657 = .ok (.bipush 120, 2) := by decide +kernel
theorem dL_same_659 : decode cL_same 659 = .ok (.invokestatic 89, 3) := by decide +kernel
theorem dL_same_662 : decode cL_same 662 = .ok (.istore 8, 2) := by decide +kernel
theorem dL_same_664 : decode cL_same 664 = .ok (.iload_n 1, 1) := by decide +kernel
theorem dL_same_665 : decode cL_same 665 = .ok (.iconst 4, 1) := by decide +kernel
theorem dL_same_666 : decode cL_same 666 = .ok (.ishr, 1) := by decide +kernel
theorem dL_same_667 : decode cL_same 667 = .ok (.bipush 8, 2) := by decide +kernel
theorem dL_same_669 : decode cL_same 669 = .ok (.invokestatic 89, 3) := by decide +kernel
theorem dL_same_672 : decode cL_same 672 = .ok (.istore 9, 2) := by decide +kernel
theorem dL_same_674 : decode cL_same 674 = .ok (.iload_n 1, 1) := by decide +kernel
theorem dL_same_675 : decode cL_same 675 = .ok (.bipush 8, 2) := by decide +kernel
theorem dL_same_677 : decode cL_same 677 = .ok (.ishr, 1) := by decide +kernel
theorem dL_same_678 : decode cL_same 678 = .ok (.iconst 4, 1) := by decide +kernel
theorem dL_same_679 : decode cL_same 679 = .ok (.invokestatic 89, 3) := by decide +kernel
theorem dL_same_682 : decode cL_same 682 = .ok (.ifCond .le 5, 3) := by decide +kernel
theorem dL_same_685 : decode cL_same 685 = .ok (.iconst 1, 1) := by decide +kernel
theorem dL_same_686 : decode cL_same 686 = .ok (.ireturn, 1) := by decide +kernel
theorem dL_same_687 : decode cL_same 687 = .ok (.iload 8, 2) := by decide +kernel
theorem dL_same_689 : decode cL_same 689 = .ok (.iconst 0, 1) := by decide +kernel
theorem dL_same_690 : decode cL_same 690 = .ok (.iconst (-1), 1) := by decide +kernel
theorem dL_same_691 : decode cL_same 691 = .ok (.aload_n 2, 1) := by decide +kernel
theorem dL_same_692 : decode cL_same 692 = .ok (.aload_n 3, 1) := by decide +kernel
theorem dL_same_693 : decode cL_same 693 = .ok (.aload 4, 2) := by decide +kernel
theorem dL_same_695 : decode cL_same 695 = .ok (.aload 5, 2) := by decide +kernel
theorem dL_same_697 : decode cL_same 697 = .ok (.invokestatic 92, 3) := by decide +kernel
theorem dL_same_700 : decode cL_same 700 = .ok (.istore 10, 2) := by decide +kernel
theorem dL_same_702 : decode cL_same 702 = .ok (.iload 8, 2) := by decide +kernel
theorem dL_same_704 : decode cL_same 704 = .ok (.iconst 1, 1) := by decide +kernel
theorem dL_same_705 : decode cL_same 705 = .ok (.iconst (-1), 1) := by decide +kernel
theorem dL_same_706 : decode cL_same 706 = .ok (.aload_n 2, 1) := by decide +kernel
theorem dL_same_707 : decode cL_same 707 = .ok (.aload_n 3, 1) := by decide +kernel
theorem dL_same_708 : decode cL_same 708 = .ok (.aload 4, 2) := by decide +kernel
theorem dL_same_710 : decode cL_same 710 = .ok (.aload 5, 2) := by decide +kernel
theorem dL_same_712 : decode cL_same 712 = .ok (.invokestatic 92, 3) := by decide +kernel
theorem dL_same_715 : decode cL_same 715 = .ok (.istore 11, 2) := by decide +kernel
theorem dL_same_717 : decode cL_same 717 = .ok (.iload 8, 2) := by decide +kernel
theorem dL_same_719 : decode cL_same 719 = .ok (.iconst 2, 1) := by decide +kernel
theorem dL_same_720 : decode cL_same 720 = .ok (.iconst (-1), 1) := by decide +kernel
theorem dL_same_721 : decode cL_same 721 = .ok (.aload_n 2, 1) := by decide +kernel
theorem dL_same_722 : decode cL_same 722 = .ok (.aload_n 3, 1) := by decide +kernel
theorem dL_same_723 : decode cL_same 723 = .ok (.aload 4, 2) := by decide +kernel
theorem dL_same_725 : decode cL_same 725 = .ok (.aload 5, 2) := by decide +kernel
theorem dL_same_727 : decode cL_same 727 = .ok (.invokestatic 92, 3) := by decide +kernel
theorem dL_same_730 : decode cL_same 730 = .ok (.istore 12, 2) := by decide +kernel
theorem dL_same_732 : decode cL_same 732 = .ok (.iload 12, 2) := by decide +kernel
theorem dL_same_734 : decode cL_same 734 = .ok (.iload 10, 2) := by decide +kernel
theorem dL_same_736 : decode cL_same 736 = .ok (.if_icmp .ge 14, 3) := by decide +kernel
theorem dL_same_739 : decode cL_same 739 = .ok (.iload 12, 2) := by decide +kernel
theorem dL_same_741 : decode cL_same 741 = .ok (.iload 11, 2) := by decide +kernel
theorem dL_same_743 : decode cL_same 743 = .ok (.if_icmp .ge 7, 3) := by decide +kernel
theorem dL_same_746 : decode cL_same 746 = .ok (.iconst 2, 1) := by decide +kernel
theorem dL_same_747 : decode cL_same 747 = .ok (.goto 15, 3) := by decide +kernel
theorem dL_same_750 : decode cL_same 750 = .ok (.iload 11, 2) := by decide +kernel
theorem dL_same_752 : decode cL_same 752 = .ok (.iload 10, 2) := by decide +kernel
theorem dL_same_754 : decode cL_same 754 = .ok (.if_icmp .ge 7, 3) := by decide +kernel
theorem dL_same_757 : decode cL_same 757 = .ok (.iconst 1, 1) := by decide +kernel
theorem dL_same_758 : decode cL_same 758 = .ok (.goto 4, 3) := by decide +kernel
theorem dL_same_761 : decode cL_same 761 = .ok (.iconst 0, 1) := by decide +kernel
theorem dL_same_762 : decode cL_same 762 = .ok (.istore 13, 2) := by decide +kernel
theorem dL_same_764 : decode cL_same 764 = .ok (.aload_n 0, 1) := by decide +kernel
theorem dL_same_765 : decode cL_same 765 = .ok (.iload 8, 2) := by decide +kernel
theorem dL_same_767 : decode cL_same 767 = .ok (.invokevirtual 96, 3) := by decide +kernel
theorem dL_same_770 : decode cL_same 770 = .ok (.aload_n 2, 1) := by decide +kernel
theorem dL_same_771 : decode cL_same 771 = .ok (.iconst 4, 1) := by decide +kernel
theorem dL_same_772 : decode cL_same 772 = .ok (.iaload, 1) := by decide +kernel
theorem dL_same_773 : decode cL_same 773 = .ok (.ifCond .ne 8, 3) := by decide +kernel
theorem dL_same_776 : decode cL_same 776 = .ok (.iload 10, 2) := by decide +kernel
theorem dL_same_778 : decode cL_same 778 = .ok (.goto 17, 3) := by decide +kernel
theorem dL_same_781 : decode cL_same 781 = .ok (.aload_n 2, 1) := by decide +kernel
theorem dL_same_782 : decode cL_same 782 = .ok (.iconst 4, 1) := by decide +kernel
theorem dL_same_783 : decode cL_same 783 = .ok (.iaload, 1) := by decide +kernel
theorem dL_same_784 : decode cL_same 784 = .ok (.iconst 1, 1) := by decide +kernel
theorem dL_same_785 : decode cL_same 785 = .ok (.if_icmp .ne 8, 3) := by decide +kernel
theorem dL_same_788 : decode cL_same 788 = .ok (.iload 11, 2) := by decide +kernel
theorem dL_same_790 : decode cL_same 790 = .ok (.goto 5, 3) := by decide +kernel
theorem dL_same_793 : decode cL_same 793 = .ok (.iload 12, 2) := by decide +kernel
theorem dL_same_795 : decode cL_same 795 = .ok (.if_icmp .ne 44, 3) := by decide +kernel
theorem dL_same_798 : decode cL_same 798 = .ok (.aload_n 0, 1) := by decide +kernel
theorem dL_same_799 : decode cL_same 799 = .ok (.iload 8, 2) := by decide +kernel
theorem dL_same_801 : decode cL_same 801 = .ok (.invokevirtual 99, 3) := by decide +kernel
theorem dL_same_804 : decode cL_same 804 = .ok (.iload 13, 2) := by decide +kernel
theorem dL_same_806 : decode cL_same 806 = .ok (.if_icmp .ne 33, 3) := by decide +kernel
theorem dL_same_809 : decode cL_same 809 = .ok (.aload_n 0, 1) := by decide +kernel
theorem dL_same_810 : decode cL_same 810 = .ok (.iload 9, 2) := by decide +kernel
theorem dL_same_812 : decode cL_same 812 = .ok (.invokevirtual 102, 3) := by decide +kernel
theorem dL_same_815 : decode cL_same 815 = .ok (.sipush 3000, 3) := by decide +kernel
theorem dL_same_818 : decode cL_same 818 = .ok (.aload_n 2, 1) := by decide +kernel
theorem dL_same_819 : decode cL_same 819 = .ok (.iconst 4, 1) := by decide +kernel
theorem dL_same_820 : decode cL_same 820 = .ok (.iaload, 1) := by decide +kernel
theorem dL_same_821 : decode cL_same 821 = .ok (.iload 9, 2) := by decide +kernel
theorem dL_same_823 : decode cL_same 823 = .ok (.aload_n 2, 1) := by decide +kernel
theorem dL_same_824 : decode cL_same 824 = .ok (.aload_n 3, 1) := by decide +kernel
theorem dL_same_825 : decode cL_same 825 = .ok (.aload 4, 2) := by decide +kernel
theorem dL_same_827 : decode cL_same 827 = .ok (.aload 5, 2) := by decide +kernel
theorem dL_same_829 : decode cL_same 829 = .ok (.invokestatic 92, 3) := by decide +kernel
theorem dL_same_832 : decode cL_same 832 = .ok (.if_icmp .ne 7, 3) := by decide +kernel
theorem dL_same_835 : decode cL_same 835 = .ok (.iconst 1, 1) := by decide +kernel
theorem dL_same_836 : decode cL_same 836 = .ok (.goto 4, 3) := by decide +kernel
theorem dL_same_839 : decode cL_same 839 = .ok (.iconst 0, 1) := by decide +kernel
theorem dL_same_840 : decode cL_same 840 = .ok (.ireturn, 1) := by decide +kernel
theorem dL_law_0 : decode cL_law 0 = .ok (.new 51, 3) := by decide +kernel
theorem dL_law_3 : decode cL_law 3 = .ok (.dup, 1) := by decide +kernel
theorem dL_law_4 : decode cL_law 4 = .ok (.invokespecial 105, 3) := by decide +kernel
theorem dL_law_7 : decode cL_law 7 = .ok (.astore_n 1, 1) := by decide +kernel
theorem dL_law_8 : decode cL_law 8 = .ok (.bipush 20, 2) := by decide +kernel
theorem dL_law_10 : decode cL_law 10 = .ok (.newarray .int, 2) := by decide +kernel
theorem dL_law_12 : decode cL_law 12 = .ok (.astore_n 2, 1) := by decide +kernel
theorem dL_law_13 : decode cL_law 13 = .ok (.bipush 8, 2) := by decide +kernel
theorem dL_law_15 : decode cL_law 15 = .ok (.newarray .int, 2) := by decide +kernel
theorem dL_law_17 : decode cL_law 17 = .ok (.astore_n 3, 1) := by decide +kernel
theorem dL_law_18 : decode cL_law 18 = .ok (.bipush 6, 2) := by decide +kernel
theorem dL_law_20 : decode cL_law 20 = .ok (.newarray .int, 2) := by decide +kernel
theorem dL_law_22 : decode cL_law 22 = .ok (.astore 4, 2) := by decide +kernel
theorem dL_law_24 : decode cL_law 24 = .ok (.bipush 20, 2) := by decide +kernel
theorem dL_law_26 : decode cL_law 26 = .ok (.newarray .int, 2) := by decide +kernel
theorem dL_law_28 : decode cL_law 28 = .ok (.astore 5, 2) := by decide +kernel
theorem dL_law_30 : decode cL_law 30 = .ok (.bipush 30, 2) := by decide +kernel
theorem dL_law_32 : decode cL_law 32 = .ok (.newarray .int, 2) := by decide +kernel
theorem dL_law_34 : decode cL_law 34 = .ok (.astore 6, 2) := by decide +kernel
theorem dL_law_36 : decode cL_law 36 = .ok (.aload_n 2, 1) := by decide +kernel
theorem dL_law_37 : decode cL_law 37 = .ok (.iconst 3, 1) := by decide +kernel
theorem dL_law_38 : decode cL_law 38 = .ok (.bipush 6, 2) := by decide +kernel
theorem dL_law_40 : decode cL_law 40 = .ok (.iastore, 1) := by decide +kernel
theorem dL_law_41 : decode cL_law 41 = .ok (.aload_n 2, 1) := by decide +kernel
theorem dL_law_42 : decode cL_law 42 = .ok (.iconst 5, 1) := by decide +kernel
theorem dL_law_43 : decode cL_law 43 = .ok (.bipush (-6), 2) := by decide +kernel
theorem dL_law_45 : decode cL_law 45 = .ok (.iastore, 1) := by decide +kernel
theorem dL_law_46 : decode cL_law 46 = .ok (.aload_n 2, 1) := by decide +kernel
theorem dL_law_47 : decode cL_law 47 = .ok (.bipush 13, 2) := by decide +kernel
theorem dL_law_49 : decode cL_law 49 = .ok (.bipush (-6), 2) := by decide +kernel
theorem dL_law_51 : decode cL_law 51 = .ok (.iastore, 1) := by decide +kernel
theorem dL_law_52 : decode cL_law 52 = .ok (.aload_n 2, 1) := by decide +kernel
theorem dL_law_53 : decode cL_law 53 = .ok (.bipush 15, 2) := by decide +kernel
theorem dL_law_55 : decode cL_law 55 = .ok (.iconst 5, 1) := by decide +kernel
theorem dL_law_56 : decode cL_law 56 = .ok (.iastore, 1) := by decide +kernel
theorem dL_law_57 : decode cL_law 57 = .ok (.aload_n 2, 1) := by decide +kernel
theorem dL_law_58 : decode cL_law 58 = .ok (.bipush 16, 2) := by decide +kernel
theorem dL_law_60 : decode cL_law 60 = .ok (.bipush 10, 2) := by decide +kernel
theorem dL_law_62 : decode cL_law 62 = .ok (.iastore, 1) := by decide +kernel
theorem dL_law_63 : decode cL_law 63 = .ok (.aload_n 2, 1) := by decide +kernel
theorem dL_law_64 : decode cL_law 64 = .ok (.bipush 17, 2) := by decide +kernel
theorem dL_law_66 : decode cL_law 66 = .ok (.iconst 3, 1) := by decide +kernel
theorem dL_law_67 : decode cL_law 67 = .ok (.iastore, 1) := by decide +kernel
theorem dL_law_68 : decode cL_law 68 = .ok (.aload_n 2, 1) := by decide +kernel
theorem dL_law_69 : decode cL_law 69 = .ok (.bipush 18, 2) := by decide +kernel
theorem dL_law_71 : decode cL_law 71 = .ok (.iconst 5, 1) := by decide +kernel
theorem dL_law_72 : decode cL_law 72 = .ok (.iastore, 1) := by decide +kernel
theorem dL_law_73 : decode cL_law 73 = .ok (.aload_n 2, 1) := by decide +kernel
theorem dL_law_74 : decode cL_law 74 = .ok (.bipush 19, 2) := by decide +kernel
theorem dL_law_76 : decode cL_law 76 = .ok (.sipush 400, 3) := by decide +kernel
theorem dL_law_79 : decode cL_law 79 = .ok (.iastore, 1) := by decide +kernel
theorem dL_law_80 : decode cL_law 80 = .ok (.iconst 0, 1) := by decide +kernel
theorem dL_law_81 : decode cL_law 81 = .ok (.istore 7, 2) := by decide +kernel
theorem dL_law_83 : decode cL_law 83 = .ok (.iload 7, 2) := by decide +kernel
theorem dL_law_85 : decode cL_law 85 = .ok (.bipush 36, 2) := by decide +kernel
theorem dL_law_87 : decode cL_law 87 = .ok (.if_icmp .ge 1059, 3) := by decide +kernel
theorem dL_law_90 : decode cL_law 90 = .ok (.aload_n 0, 1) := by decide +kernel
theorem dL_law_91 : decode cL_law 91 = .ok (.iconst 2, 1) := by decide +kernel
theorem dL_law_92 : decode cL_law 92 = .ok (.iload 7, 2) := by decide +kernel
theorem dL_law_94 : decode cL_law 94 = .ok (.imul, 1) := by decide +kernel
theorem dL_law_95 : decode cL_law 95 = .ok (.invokestatic 106, 3) := by decide +kernel
theorem dL_law_98 : decode cL_law 98 = .ok (.istore 8, 2) := by decide +kernel
theorem dL_law_100 : decode cL_law 100 = .ok (.aload_n 0, 1) := by decide +kernel
theorem dL_law_101 : decode cL_law 101 = .ok (.iconst 2, 1) := by decide +kernel
theorem dL_law_102 : decode cL_law 102 = .ok (.iload 7, 2) := by decide +kernel
theorem dL_law_104 : decode cL_law 104 = .ok (.imul, 1) := by decide +kernel
theorem dL_law_105 : decode cL_law 105 = .ok (.iconst 1, 1) := by decide +kernel
theorem dL_law_106 : decode cL_law 106 = .ok (.iadd, 1) := by decide +kernel
theorem dL_law_107 : decode cL_law 107 = .ok (.invokestatic 106, 3) := by decide +kernel
theorem dL_law_110 : decode cL_law 110 = .ok (.istore 9, 2) := by decide +kernel
theorem dL_law_112 : decode cL_law 112 = .ok (.iload 7, 2) := by decide +kernel
theorem dL_law_114 : decode cL_law 114 = .ok (.ifCond .ne 8, 3) := by decide +kernel
theorem dL_law_117 : decode cL_law 117 = .ok (.bipush 8, 2) := by decide +kernel
theorem dL_law_119 : decode cL_law 119 = .ok (.goto 20, 3) := by decide +kernel
theorem dL_law_122 : decode cL_law 122 = .ok (.iload 7, 2) := by decide +kernel
theorem dL_law_124 : decode cL_law 124 = .ok (.iconst 5, 1) := by decide +kernel
theorem dL_law_125 : decode cL_law 125 = .ok (.if_icmp .ge 7, 3) := by decide +kernel
theorem dL_law_128 : decode cL_law 128 = .ok (.iconst 0, 1) := by decide +kernel
theorem dL_law_129 : decode cL_law 129 = .ok (.goto 10, 3) := by decide +kernel
theorem dL_law_132 : decode cL_law 132 = .ok (.iload 8, 2) := by decide +kernel
theorem dL_law_134 : decode cL_law 134 = .ok (.bipush 16, 2) := by decide +kernel
theorem dL_law_136 : decode cL_law 136 = .ok (.invokestatic 89, 3) := by decide +kernel
theorem dL_law_139 : decode cL_law 139 = .ok (.istore 10, 2) := by decide +kernel
theorem dL_law_141 : decode cL_law 141 = .ok (.iload 9, 2) := by decide +kernel
theorem dL_law_143 : decode cL_law 143 = .ok (.iload 8, 2) := by decide +kernel
theorem dL_law_145 : decode cL_law 145 = .ok (.iconst 5, 1) := by decide +kernel
theorem dL_law_146 : decode cL_law 146 = .ok (.ishr, 1) := by decide +kernel
theorem dL_law_147 : decode cL_law 147 = .ok (.iconst 3, 1) := by decide +kernel
theorem dL_law_148 : decode cL_law 148 = .ok (.invokestatic 89, 3) := by decide +kernel
theorem dL_law_151 : decode cL_law 151 = .ok (.ifCond .ne 8, 3) := by decide +kernel
theorem dL_law_154 : decode cL_law 154 = .ok (.bipush 8, 2) := by decide +kernel
theorem dL_law_156 : decode cL_law 156 = .ok (.goto 4, 3) := by decide +kernel
theorem dL_law_159 : decode cL_law 159 = .ok (.iconst 3, 1) := by decide +kernel
theorem dL_law_160 : decode cL_law 160 = .ok (.invokestatic 89, 3) := by decide +kernel
theorem dL_law_163 : decode cL_law 163 = .ok (.istore 11, 2) := by decide +kernel
theorem dL_law_165 : decode cL_law 165 = .ok (.iload 10, 2) := by decide +kernel
theorem dL_law_167 : decode cL_law 167 = .ok (.iconst 3, 1) := by decide +kernel
theorem dL_law_168 : decode cL_law 168 = .ok (.if_icmp .ge 126, 3) := by decide +kernel
theorem dL_law_171 : decode cL_law 171 = .ok (.iconst 1, 1) := by decide +kernel
theorem dL_law_172 : decode cL_law 172 = .ok (.iload 9, 2) := by decide +kernel
theorem dL_law_174 : decode cL_law 174 = .ok (.iconst 4, 1) := by decide +kernel
theorem dL_law_175 : decode cL_law 175 = .ok (.ishr, 1) := by decide +kernel
theorem dL_law_176 : decode cL_law 176 = .ok (.bipush 9, 2) := by decide +kernel
theorem dL_law_178 : decode cL_law 178 = .ok (.invokestatic 89, 3) := by decide +kernel
theorem dL_law_181 : decode cL_law 181 = .ok (.iadd, 1) := by decide +kernel
theorem dL_law_182 : decode cL_law 182 = .ok (.istore 12, 2) := by decide +kernel
theorem dL_law_184 : decode cL_law 184 = .ok (.aload_n 2, 1) := by decide +kernel
theorem dL_law_185 : decode cL_law 185 = .ok (.iconst 2, 1) := by decide +kernel
theorem dL_law_186 : decode cL_law 186 = .ok (.iaload, 1) := by decide +kernel
theorem dL_law_187 : decode cL_law 187 = .ok (.bipush 20, 2) := by decide +kernel
theorem dL_law_189 : decode cL_law 189 = .ok (.if_icmp .ne 7, 3) := by decide +kernel
theorem dL_law_192 : decode cL_law 192 = .ok (.iconst 1, 1) := by decide +kernel
theorem dL_law_193 : decode cL_law 193 = .ok (.goto 4, 3) := by decide +kernel
theorem dL_law_196 : decode cL_law 196 = .ok (.iconst 0, 1) := by decide +kernel
theorem dL_law_197 : decode cL_law 197 = .ok (.istore 13, 2) := by decide +kernel
theorem dL_law_199 : decode cL_law 199 = .ok (.iconst 1, 1) := by decide +kernel
theorem dL_law_200 : decode cL_law 200 = .ok (.istore 14, 2) := by decide +kernel
theorem dL_law_202 : decode cL_law 202 = .ok (.iconst 0, 1) := by decide +kernel
theorem dL_law_203 : decode cL_law 203 = .ok (.istore 15, 2) := by decide +kernel
theorem dL_law_205 : decode cL_law 205 = .ok (.iload 15, 2) := by decide +kernel
theorem dL_law_207 : decode cL_law 207 = .ok (.aload_n 2, 1) := by decide +kernel
theorem dL_law_208 : decode cL_law 208 = .ok (.iconst 2, 1) := by decide +kernel
theorem dL_law_209 : decode cL_law 209 = .ok (.iaload, 1) := by decide +kernel
theorem dL_law_210 : decode cL_law 210 = .ok (.if_icmp .ge 32, 3) := by decide +kernel
theorem dL_law_213 : decode cL_law 213 = .ok (.iload 14, 2) := by decide +kernel
theorem dL_law_215 : decode cL_law 215 = .ok (.aload 5, 2) := by decide +kernel
theorem dL_law_217 : decode cL_law 217 = .ok (.iload 15, 2) := by decide +kernel
theorem dL_law_219 : decode cL_law 219 = .ok (.iaload, 1) := by decide +kernel
theorem dL_law_220 : decode cL_law 220 = .ok (.bipush 10, 2) := by decide +kernel
theorem dL_law_222 : decode cL_law 222 = .ok (.idiv, 1) := by decide +kernel
theorem dL_law_223 : decode cL_law 223 = .ok (.iload 11, 2) := by decide +kernel
theorem dL_law_225 : decode cL_law 225 = .ok (.if_icmp .ne 7, 3) := by decide +kernel
theorem dL_law_228 : decode cL_law 228 = .ok (.iconst 1, 1) := by decide +kernel
theorem dL_law_229 : decode cL_law 229 = .ok (.goto 4, 3) := by decide +kernel
theorem dL_law_232 : decode cL_law 232 = .ok (.iconst 0, 1) := by decide +kernel
theorem dL_law_233 : decode cL_law 233 = .ok (.iadd, 1) := by decide +kernel
theorem dL_law_234 : decode cL_law 234 = .ok (.istore 14, 2) := by decide +kernel
theorem dL_law_236 : decode cL_law 236 = .ok (.iinc 15 1, 3) := by decide +kernel
theorem dL_law_239 : decode cL_law 239 = .ok (.goto (-34), 3) := by decide +kernel
theorem dL_law_242 : decode cL_law 242 = .ok (.aload_n 1, 1) := by decide +kernel
theorem dL_law_243 : decode cL_law 243 = .ok (.iload 11, 2) := by decide +kernel
theorem dL_law_245 : decode cL_law 245 = .ok (.iload 12, 2) := by decide +kernel
theorem dL_law_247 : decode cL_law 247 = .ok (.invokevirtual 110, 3) := by decide +kernel
theorem dL_law_250 : decode cL_law 250 = .ok (.iload 13, 2) := by decide +kernel
theorem dL_law_252 : decode cL_law 252 = .ok (.ifCond .eq 8, 3) := by decide +kernel
theorem dL_law_255 : decode cL_law 255 = .ok (.bipush (-4), 2) := by decide +kernel
theorem dL_law_257 : decode cL_law 257 = .ok (.goto 5, 3) := by decide +kernel
theorem dL_law_260 : decode cL_law 260 = .ok (.iload 14, 2) := by decide +kernel
theorem dL_law_262 : decode cL_law 262 = .ok (.if_icmp .eq 5, 3) := by decide +kernel
theorem dL_law_265 : decode cL_law 265 = .ok (.iconst 0, 1) := by decide +kernel
theorem dL_law_266 : decode cL_law 266 = .ok (.ireturn, 1) := by decide +kernel
theorem dL_law_267 : decode cL_law 267 = .ok (.iload 13, 2) := by decide +kernel
theorem dL_law_269 : decode cL_law 269 = .ok (.ifCond .ne 22, 3) := by decide +kernel
theorem dL_law_272 : decode cL_law 272 = .ok (.aload 5, 2) := by decide +kernel
theorem dL_law_274 : decode cL_law 274 = .ok (.aload_n 2, 1) := by decide +kernel
theorem dL_law_275 : decode cL_law 275 = .ok (.iconst 2, 1) := by decide +kernel
theorem dL_law_276 : decode cL_law 276 = .ok (.dup2, 1) := by decide +kernel
theorem dL_law_277 : decode cL_law 277 = .ok (.iaload, 1) := by decide +kernel
theorem dL_law_278 : decode cL_law 278 = .ok (.dup_x2, 1) := by decide +kernel
theorem dL_law_279 : decode cL_law 279 = .ok (.iconst 1, 1) := by decide +kernel
theorem dL_law_280 : decode cL_law 280 = .ok (.iadd, 1) := by decide +kernel
theorem dL_law_281 : decode cL_law 281 = .ok (.iastore, 1) := by decide +kernel
theorem dL_law_282 : decode cL_law 282 = .ok (.bipush 10, 2) := by decide +kernel
theorem dL_law_284 : decode cL_law 284 = .ok (.iload 11, 2) := by decide +kernel
theorem dL_law_286 : decode cL_law 286 = .ok (.imul, 1) := by decide +kernel
theorem dL_law_287 : decode cL_law 287 = .ok (.iload 12, 2) := by decide +kernel
theorem dL_law_289 : decode cL_law 289 = .ok (.iadd, 1) := by decide +kernel
theorem dL_law_290 : decode cL_law 290 = .ok (.iastore, 1) := by decide +kernel
theorem dL_law_291 : decode cL_law 291 = .ok (.goto 828, 3) := by decide +kernel
theorem dL_law_294 : decode cL_law 294 = .ok (.iload 10, 2) := by decide +kernel
theorem dL_law_296 : decode cL_law 296 = .ok (.iconst 3, 1) := by decide +kernel
theorem dL_law_297 : decode cL_law 297 = .ok (.if_icmp .ne 107, 3) := by decide +kernel
theorem dL_law_300 : decode cL_law 300 = .ok (.iload 11, 2) := by decide +kernel
theorem dL_law_302 : decode cL_law 302 = .ok (.aload_n 2, 1) := by decide +kernel
theorem dL_law_303 : decode cL_law 303 = .ok (.aload 4, 2) := by decide +kernel
theorem dL_law_305 : decode cL_law 305 = .ok (.invokestatic 66, 3) := by decide +kernel
theorem dL_law_308 : decode cL_law 308 = .ok (.ifCond .ge 11, 3) := by decide +kernel
theorem dL_law_311 : decode cL_law 311 = .ok (.aload_n 2, 1) := by decide +kernel
theorem dL_law_312 : decode cL_law 312 = .ok (.iconst 5, 1) := by decide +kernel
theorem dL_law_313 : decode cL_law 313 = .ok (.iaload, 1) := by decide +kernel
theorem dL_law_314 : decode cL_law 314 = .ok (.iload 11, 2) := by decide +kernel
theorem dL_law_316 : decode cL_law 316 = .ok (.if_icmp .ne 7, 3) := by decide +kernel
theorem dL_law_319 : decode cL_law 319 = .ok (.iconst 1, 1) := by decide +kernel
theorem dL_law_320 : decode cL_law 320 = .ok (.goto 4, 3) := by decide +kernel
theorem dL_law_323 : decode cL_law 323 = .ok (.iconst 0, 1) := by decide +kernel
theorem dL_law_324 : decode cL_law 324 = .ok (.istore 12, 2) := by decide +kernel
theorem dL_law_326 : decode cL_law 326 = .ok (.iload 12, 2) := by decide +kernel
theorem dL_law_328 : decode cL_law 328 = .ok (.ifCond .ne 16, 3) := by decide +kernel
theorem dL_law_331 : decode cL_law 331 = .ok (.aload_n 2, 1) := by decide +kernel
theorem dL_law_332 : decode cL_law 332 = .ok (.bipush 8, 2) := by decide +kernel
theorem dL_law_334 : decode cL_law 334 = .ok (.iaload, 1) := by decide +kernel
theorem dL_law_335 : decode cL_law 335 = .ok (.bipush 6, 2) := by decide +kernel
theorem dL_law_337 : decode cL_law 337 = .ok (.if_icmp .ge 7, 3) := by decide +kernel
theorem dL_law_340 : decode cL_law 340 = .ok (.iconst 1, 1) := by decide +kernel
theorem dL_law_341 : decode cL_law 341 = .ok (.goto 4, 3) := by decide +kernel
theorem dL_law_344 : decode cL_law 344 = .ok (.iconst 0, 1) := by decide +kernel
theorem dL_law_345 : decode cL_law 345 = .ok (.istore 13, 2) := by decide +kernel
theorem dL_law_347 : decode cL_law 347 = .ok (.aload_n 1, 1) := by decide +kernel
theorem dL_law_348 : decode cL_law 348 = .ok (.iload 11, 2) := by decide +kernel
theorem dL_law_350 : decode cL_law 350 = .ok (.invokevirtual 113, 3) := by decide +kernel
theorem dL_law_353 : decode cL_law 353 = .ok (.iload 12, 2) := by decide +kernel
theorem dL_law_355 : decode cL_law 355 = .ok (.ifCond .eq 8, 3) := by decide +kernel
theorem dL_law_358 : decode cL_law 358 = .ok (.bipush (-3), 2) := by decide +kernel
theorem dL_law_360 : decode cL_law 360 = .ok (.goto 17, 3) := by decide +kernel
theorem dL_law_363 : decode cL_law 363 = .ok (.iload 13, 2) := by decide +kernel
theorem dL_law_365 : decode cL_law 365 = .ok (.ifCond .eq 10, 3) := by decide +kernel
theorem dL_law_368 : decode cL_law 368 = .ok (.aload_n 2, 1) := by decide +kernel
theorem dL_law_369 : decode cL_law 369 = .ok (.bipush 8, 2) := by decide +kernel
theorem dL_law_371 : decode cL_law 371 = .ok (.iaload, 1) := by decide +kernel
theorem dL_law_372 : decode cL_law 372 = .ok (.goto 5, 3) := by decide +kernel
theorem dL_law_375 : decode cL_law 375 = .ok (.bipush (-4), 2) := by decide +kernel
theorem dL_law_377 : decode cL_law 377 = .ok (.if_icmp .eq 5, 3) := by decide +kernel
theorem dL_law_380 : decode cL_law 380 = .ok (.iconst 0, 1) := by decide +kernel
theorem dL_law_381 : decode cL_law 381 = .ok (.ireturn, 1) := by decide +kernel
theorem dL_law_382 : decode cL_law 382 = .ok (.iload 13, 2) := by decide +kernel
theorem dL_law_384 : decode cL_law 384 = .ok (.ifCond .eq 17, 3) := by decide +kernel
theorem dL_law_387 : decode cL_law 387 = .ok (.aload 4, 2) := by decide +kernel
theorem dL_law_389 : decode cL_law 389 = .ok (.aload_n 2, 1) := by decide +kernel
theorem dL_law_390 : decode cL_law 390 = .ok (.bipush 8, 2) := by decide +kernel
theorem dL_law_392 : decode cL_law 392 = .ok (.dup2, 1) := by decide +kernel
theorem dL_law_393 : decode cL_law 393 = .ok (.iaload, 1) := by decide +kernel
theorem dL_law_394 : decode cL_law 394 = .ok (.dup_x2, 1) := by decide +kernel
theorem dL_law_395 : decode cL_law 395 = .ok (.iconst 1, 1) := by decide +kernel
theorem dL_law_396 : decode cL_law 396 = .ok (.iadd, 1) := by decide +kernel
theorem dL_law_397 : decode cL_law 397 = .ok (.iastore, 1) := by decide +kernel
theorem dL_law_398 : decode cL_law 398 = .ok (.iload 11, 2) := by decide +kernel
theorem dL_law_400 : decode cL_law 400 = .ok (.iastore, 1) := by decide +kernel
theorem dL_law_401 : decode cL_law 401 = .ok (.goto 718, 3) := by decide +kernel
theorem dL_law_404 : decode cL_law 404 = .ok (.iload 10, 2) := by decide +kernel
theorem dL_law_406 : decode cL_law 406 = .ok (.iconst 4, 1) := by decide +kernel
theorem dL_law_407 : decode cL_law 407 = .ok (.if_icmp .ne 54, 3) := by decide +kernel
theorem dL_law_410 : decode cL_law 410 = .ok (.iload 11, 2) := by decide +kernel
theorem dL_law_412 : decode cL_law 412 = .ok (.aload_n 2, 1) := by decide +kernel
theorem dL_law_413 : decode cL_law 413 = .ok (.aload 4, 2) := by decide +kernel
theorem dL_law_415 : decode cL_law 415 = .ok (.invokestatic 66, 3) := by decide +kernel
theorem dL_law_418 : decode cL_law 418 = .ok (.istore 12, 2) := by decide +kernel
theorem dL_law_420 : decode cL_law 420 = .ok (.iload 12, 2) := by decide +kernel
theorem dL_law_422 : decode cL_law 422 = .ok (.ifCond .lt 11, 3) := by decide +kernel
theorem dL_law_425 : decode cL_law 425 = .ok (.iload 12, 2) := by decide +kernel
theorem dL_law_427 : decode cL_law 427 = .ok (.aload_n 2, 1) := by decide +kernel
theorem dL_law_428 : decode cL_law 428 = .ok (.aload 4, 2) := by decide +kernel
theorem dL_law_430 : decode cL_law 430 = .ok (.invokestatic 20, 3) := by decide +kernel
theorem dL_law_433 : decode cL_law 433 = .ok (.aload_n 1, 1) := by decide +kernel
theorem dL_law_434 : decode cL_law 434 = .ok (.iload 11, 2) := by decide +kernel
theorem dL_law_436 : decode cL_law 436 = .ok (.invokevirtual 116, 3) := by decide +kernel
theorem dL_law_439 : decode cL_law 439 = .ok (.iload 12, 2) := by decide +kernel
theorem dL_law_441 : decode cL_law 441 = .ok (.ifCond .ge 8, 3) := by decide +kernel
theorem dL_law_444 : decode cL_law 444 = .ok (.bipush (-3), 2) := by decide +kernel
theorem dL_law_446 : decode cL_law 446 = .ok (.goto 7, 3) := by decide +kernel
theorem dL_law_449 : decode cL_law 449 = .ok (.aload_n 2, 1) := by decide +kernel
theorem dL_law_450 : decode cL_law 450 = .ok (.bipush 8, 2) := by decide +kernel
theorem dL_law_452 : decode cL_law 452 = .ok (.iaload, 1) := by decide +kernel
theorem dL_law_453 : decode cL_law 453 = .ok (.if_icmp .eq 5, 3) := by decide +kernel
theorem dL_law_456 : decode cL_law 456 = .ok (.iconst 0, 1) := by decide +kernel
theorem dL_law_457 : decode cL_law 457 = .ok (.ireturn, 1) := by decide +kernel
theorem dL_law_458 : decode cL_law 458 = .ok (.goto 661, 3) := by decide +kernel
theorem dL_law_461 : decode cL_law 461 = .ok (.iload 10, 2) := by decide +kernel
theorem dL_law_463 : decode cL_law 463 = .ok (.bipush 8, 2) := by decide +kernel
theorem dL_law_465 : decode cL_law 465 = .ok (.if_icmp .ge 243, 3) := by decide +kernel
theorem dL_law_468 : decode cL_law 468 = .ok (.iconst 1, 1) := by decide +kernel
theorem dL_law_469 : decode cL_law 469 = .ok (.iload 9, 2) := by decide +kernel
theorem dL_law_471 : decode cL_law 471 = .ok (.iconst 3, 1) := by decide +kernel
theorem dL_law_472 : decode cL_law 472 = .ok (.ishr, 1) := by decide +kernel
theorem dL_law_473 : decode cL_law 473 = .ok (.iload 8, 2) := by decide +kernel
theorem dL_law_475 : decode cL_law 475 = .ok (.bipush 6, 2) := by decide +kernel
theorem dL_law_477 : decode cL_law 477 = .ok (.ishr, 1) := by decide +kernel
theorem dL_law_478 : decode cL_law 478 = .ok (.iconst 3, 1) := by decide +kernel
theorem dL_law_479 : decode cL_law 479 = .ok (.invokestatic 89, 3) := by decide +kernel
theorem dL_law_482 : decode cL_law 482 = .ok (.ifCond .ne 9, 3) := by decide +kernel
theorem dL_law_485 : decode cL_law 485 = .ok (.sipush 200, 3) := by decide +kernel
theorem dL_law_488 : decode cL_law 488 = .ok (.goto 5, 3) := by decide +kernel
theorem dL_law_491 : decode cL_law 491 = .ok (.bipush 20, 2) := by decide +kernel
theorem dL_law_493 : decode cL_law 493 = .ok (.invokestatic 89, 3) := by decide +kernel
theorem dL_law_496 : decode cL_law 496 = .ok (.iadd, 1) := by decide +kernel
theorem dL_law_497 : decode cL_law 497 = .ok (.istore 12, 2) := by decide +kernel
theorem dL_law_499 : decode cL_law 499 = .ok (.iconst 0, 1) := by decide +kernel
theorem dL_law_500 : decode cL_law 500 = .ok (.istore 13, 2) := by decide +kernel
theorem dL_law_502 : decode cL_law 502 = .ok (.aload_n 2, 1) := by decide +kernel
theorem dL_law_503 : decode cL_law 503 = .ok (.iconst 0, 1) := by decide +kernel
theorem dL_law_504 : decode cL_law 504 = .ok (.dup2, 1) := by decide +kernel
theorem dL_law_505 : decode cL_law 505 = .ok (.iaload, 1) := by decide +kernel
theorem dL_law_506 : decode cL_law 506 = .ok (.iload 12, 2) := by decide +kernel
theorem dL_law_508 : decode cL_law 508 = .ok (.iadd, 1) := by decide +kernel
theorem dL_law_509 : decode cL_law 509 = .ok (.iastore, 1) := by decide +kernel
theorem dL_law_510 : decode cL_law 510 = .ok (.aload_n 2, 1) := by decide +kernel
theorem dL_law_511 : decode cL_law 511 = .ok (.iconst 1, 1) := by decide +kernel
theorem dL_law_512 : decode cL_law 512 = .ok (.iconst 0, 1) := by decide +kernel
theorem dL_law_513 : decode cL_law 513 = .ok (.iastore, 1) := by decide +kernel
theorem dL_law_514 : decode cL_law 514 = .ok (.aload_n 2, 1) := by decide +kernel
theorem dL_law_515 : decode cL_law 515 = .ok (.iconst 5, 1) := by decide +kernel
theorem dL_law_516 : decode cL_law 516 = .ok (.iaload, 1) := by decide +kernel
theorem dL_law_517 : decode cL_law 517 = .ok (.ifCond .lt 43, 3) := by decide +kernel
theorem dL_law_520 : decode cL_law 520 = .ok (.aload_n 2, 1) := by decide +kernel
theorem dL_law_521 : decode cL_law 521 = .ok (.bipush 6, 2) := by decide +kernel
theorem dL_law_523 : decode cL_law 523 = .ok (.aload_n 2, 1) := by decide +kernel
theorem dL_law_524 : decode cL_law 524 = .ok (.bipush 6, 2) := by decide +kernel
theorem dL_law_526 : decode cL_law 526 = .ok (.iaload, 1) := by decide +kernel
theorem dL_law_527 : decode cL_law 527 = .ok (.iconst 2, 1) := by decide +kernel
theorem dL_law_528 : decode cL_law 528 = .ok (.if_icmp .le 12, 3) := by decide +kernel
theorem dL_law_531 : decode cL_law 531 = .ok (.aload_n 2, 1) := by decide +kernel
theorem dL_law_532 : decode cL_law 532 = .ok (.bipush 6, 2) := by decide +kernel
theorem dL_law_534 : decode cL_law 534 = .ok (.iaload, 1) := by decide +kernel
theorem dL_law_535 : decode cL_law 535 = .ok (.iconst 2, 1) := by decide +kernel
theorem dL_law_536 : decode cL_law 536 = .ok (.isub, 1) := by decide +kernel
theorem dL_law_537 : decode cL_law 537 = .ok (.goto 4, 3) := by decide +kernel
theorem dL_law_540 : decode cL_law 540 = .ok (.iconst 0, 1) := by decide +kernel
theorem dL_law_541 : decode cL_law 541 = .ok (.iastore, 1) := by decide +kernel
theorem dL_law_542 : decode cL_law 542 = .ok (.aload_n 2, 1) := by decide +kernel
theorem dL_law_543 : decode cL_law 543 = .ok (.bipush 10, 2) := by decide +kernel
theorem dL_law_545 : decode cL_law 545 = .ok (.dup2, 1) := by decide +kernel
theorem dL_law_546 : decode cL_law 546 = .ok (.iaload, 1) := by decide +kernel
theorem dL_law_547 : decode cL_law 547 = .ok (.iconst 1, 1) := by decide +kernel
theorem dL_law_548 : decode cL_law 548 = .ok (.iadd, 1) := by decide +kernel
theorem dL_law_549 : decode cL_law 549 = .ok (.iastore, 1) := by decide +kernel
theorem dL_law_550 : decode cL_law 550 = .ok (.iconst 2, 1) := by decide +kernel
theorem dL_law_551 : decode cL_law 551 = .ok (.aload_n 2, 1) := by decide +kernel
theorem dL_law_552 : decode cL_law 552 = .ok (.iconst 5, 1) := by decide +kernel
theorem dL_law_553 : decode cL_law 553 = .ok (.iaload, 1) := by decide +kernel
theorem dL_law_554 : decode cL_law 554 = .ok (.aload_n 2, 1) := by decide +kernel
theorem dL_law_555 : decode cL_law 555 = .ok (.aload 6, 2) := by decide +kernel
theorem dL_law_557 : decode cL_law 557 = .ok (.invokestatic 24, 3) := by decide +kernel
theorem dL_law_560 : decode cL_law 560 = .ok (.iconst 0, 1) := by decide +kernel
theorem dL_law_561 : decode cL_law 561 = .ok (.istore 14, 2) := by decide +kernel
theorem dL_law_563 : decode cL_law 563 = .ok (.iload 14, 2) := by decide +kernel
theorem dL_law_565 : decode cL_law 565 = .ok (.aload_n 2, 1) := by decide +kernel
theorem dL_law_566 : decode cL_law 566 = .ok (.iconst 2, 1) := by decide +kernel
theorem dL_law_567 : decode cL_law 567 = .ok (.iaload, 1) := by decide +kernel
theorem dL_law_568 : decode cL_law 568 = .ok (.if_icmp .ge 49, 3) := by decide +kernel
theorem dL_law_571 : decode cL_law 571 = .ok (.iload 13, 2) := by decide +kernel
theorem dL_law_573 : decode cL_law 573 = .ok (.ifCond .ne 31, 3) := by decide +kernel
theorem dL_law_576 : decode cL_law 576 = .ok (.aload 5, 2) := by decide +kernel
theorem dL_law_578 : decode cL_law 578 = .ok (.iload 14, 2) := by decide +kernel
theorem dL_law_580 : decode cL_law 580 = .ok (.iaload, 1) := by decide +kernel
theorem dL_law_581 : decode cL_law 581 = .ok (.bipush 10, 2) := by decide +kernel
theorem dL_law_583 : decode cL_law 583 = .ok (.idiv, 1) := by decide +kernel
theorem dL_law_584 : decode cL_law 584 = .ok (.iload 11, 2) := by decide +kernel
theorem dL_law_586 : decode cL_law 586 = .ok (.if_icmp .ne 22, 3) := by decide +kernel
theorem dL_law_589 : decode cL_law 589 = .ok (.aload 5, 2) := by decide +kernel
theorem dL_law_591 : decode cL_law 591 = .ok (.iload 14, 2) := by decide +kernel
theorem dL_law_593 : decode cL_law 593 = .ok (.iaload, 1) := by decide +kernel
theorem dL_law_594 : decode cL_law 594 = .ok (.bipush 10, 2) := by decide +kernel
theorem dL_law_596 : decode cL_law 596 = .ok (.irem, 1) := by decide +kernel
theorem dL_law_597 : decode cL_law 597 = .ok (.aload_n 2, 1) := by decide +kernel
theorem dL_law_598 : decode cL_law 598 = .ok (.bipush 18, 2) := by decide +kernel
theorem dL_law_600 : decode cL_law 600 = .ok (.iaload, 1) := by decide +kernel
theorem dL_law_601 : decode cL_law 601 = .ok (.if_icmp .lt 7, 3) := by decide +kernel
theorem dL_law_604 : decode cL_law 604 = .ok (.iconst 1, 1) := by decide +kernel
theorem dL_law_605 : decode cL_law 605 = .ok (.goto 4, 3) := by decide +kernel
theorem dL_law_608 : decode cL_law 608 = .ok (.iconst 0, 1) := by decide +kernel
theorem dL_law_609 : decode cL_law 609 = .ok (.istore 13, 2) := by decide +kernel
theorem dL_law_611 : decode cL_law 611 = .ok (.iinc 14 1, 3) := by decide +kernel
theorem dL_law_614 : decode cL_law 614 = .ok (.goto (-51), 3) := by decide +kernel
theorem dL_law_617 : decode cL_law 617 = .ok (.iload 13, 2) := by decide +kernel
theorem dL_law_619 : decode cL_law 619 = .ok (.ifCond .eq 63, 3) := by decide +kernel
theorem dL_law_622 : decode cL_law 622 = .ok (.aload_n 2, 1) := by decide +kernel
theorem dL_law_623 : decode cL_law 623 = .ok (.bipush 12, 2) := by decide +kernel
theorem dL_law_625 : decode cL_law 625 = .ok (.dup2, 1) := by decide +kernel
theorem dL_law_626 : decode cL_law 626 = .ok (.iaload, 1) := by decide +kernel
theorem dL_law_627 : decode cL_law 627 = .ok (.iconst 1, 1) := by decide +kernel
theorem dL_law_628 : decode cL_law 628 = .ok (.iadd, 1) := by decide +kernel
theorem dL_law_629 : decode cL_law 629 = .ok (.iastore, 1) := by decide +kernel
theorem dL_law_630 : decode cL_law 630 = .ok (.bipush 6, 2) := by decide +kernel
theorem dL_law_632 : decode cL_law 632 = .ok (.iload 11, 2) := by decide +kernel
theorem dL_law_634 : decode cL_law 634 = .ok (.aload_n 2, 1) := by decide +kernel
theorem dL_law_635 : decode cL_law 635 = .ok (.aload 6, 2) := by decide +kernel
theorem dL_law_637 : decode cL_law 637 = .ok (.invokestatic 24, 3) := by decide +kernel
theorem dL_law_640 : decode cL_law 640 = .ok (.iload 11, 2) := by decide +kernel
theorem dL_law_642 : decode cL_law 642 = .ok (.aload_n 2, 1) := by decide +kernel
theorem dL_law_643 : decode cL_law 643 = .ok (.aload 4, 2) := by decide +kernel
theorem dL_law_645 : decode cL_law 645 = .ok (.invokestatic 66, 3) := by decide +kernel
theorem dL_law_648 : decode cL_law 648 = .ok (.ifCond .ge 34, 3) := by decide +kernel
theorem dL_law_651 : decode cL_law 651 = .ok (.aload_n 2, 1) := by decide +kernel
theorem dL_law_652 : decode cL_law 652 = .ok (.iconst 5, 1) := by decide +kernel
theorem dL_law_653 : decode cL_law 653 = .ok (.iaload, 1) := by decide +kernel
theorem dL_law_654 : decode cL_law 654 = .ok (.iload 11, 2) := by decide +kernel
theorem dL_law_656 : decode cL_law 656 = .ok (.if_icmp .eq 26, 3) := by decide +kernel
theorem dL_law_659 : decode cL_law 659 = .ok (.aload_n 2, 1) := by decide +kernel
theorem dL_law_660 : decode cL_law 660 = .ok (.bipush 8, 2) := by decide +kernel
theorem dL_law_662 : decode cL_law 662 = .ok (.iaload, 1) := by decide +kernel
theorem dL_law_663 : decode cL_law 663 = .ok (.bipush 6, 2) := by decide +kernel
theorem dL_law_665 : decode cL_law 665 = .ok (.if_icmp .ge 17, 3) := by decide +kernel
theorem dL_law_668 : decode cL_law 668 = .ok (.aload 4, 2) := by decide +kernel
theorem dL_law_670 : decode cL_law 670 = .ok (.aload_n 2, 1) := by decide +kernel
theorem dL_law_671 : decode cL_law 671 = .ok (.bipush 8, 2) := by decide +kernel
theorem dL_law_673 : decode cL_law 673 = .ok (.dup2, 1) := by decide +kernel
theorem dL_law_674 : decode cL_law 674 = .ok (.iaload, 1) := by decide +kernel
theorem dL_law_675 : decode cL_law 675 = .ok (.dup_x2, 1) := by decide +kernel
theorem dL_law_676 : decode cL_law 676 = .ok (.iconst 1, 1) := by decide +kernel
theorem dL_law_677 : decode cL_law 677 = .ok (.iadd, 1) := by decide +kernel
theorem dL_law_678 : decode cL_law 678 = .ok (.iastore, 1) := by decide +kernel
theorem dL_law_679 : decode cL_law 679 = .ok (.iload 11, 2) := by decide +kernel
theorem dL_law_681 : decode cL_law 681 = .ok (.iastore, 1) := by decide +kernel
theorem dL_law_682 : decode cL_law 682 = .ok (.aload_n 1, 1) := by decide +kernel
theorem dL_law_683 : decode cL_law 683 = .ok (.iload 11, 2) := by decide +kernel
theorem dL_law_685 : decode cL_law 685 = .ok (.iload 12, 2) := by decide +kernel
theorem dL_law_687 : decode cL_law 687 = .ok (.invokevirtual 119, 3) := by decide +kernel
theorem dL_law_690 : decode cL_law 690 = .ok (.iload 13, 2) := by decide +kernel
theorem dL_law_692 : decode cL_law 692 = .ok (.ifCond .eq 7, 3) := by decide +kernel
theorem dL_law_695 : decode cL_law 695 = .ok (.iconst 1, 1) := by decide +kernel
theorem dL_law_696 : decode cL_law 696 = .ok (.goto 4, 3) := by decide +kernel
theorem dL_law_699 : decode cL_law 699 = .ok (.iconst 0, 1) := by decide +kernel
theorem dL_law_700 : decode cL_law 700 = .ok (.if_icmp .eq 5, 3) := by decide +kernel
theorem dL_law_703 : decode cL_law 703 = .ok (.iconst 0, 1) := by decide +kernel
theorem dL_law_704 : decode cL_law 704 = .ok (.ireturn, 1) := by decide +kernel
theorem dL_law_705 : decode cL_law 705 = .ok (.goto 414, 3) := by decide +kernel
theorem dL_law_708 : decode cL_law 708 = .ok (.iload 10, 2) := by decide +kernel
theorem dL_law_710 : decode cL_law 710 = .ok (.bipush 12, 2) := by decide +kernel
theorem dL_law_712 : decode cL_law 712 = .ok (.if_icmp .ge 93, 3) := by decide +kernel
theorem dL_law_715 : decode cL_law 715 = .ok (.iconst 1, 1) := by decide +kernel
theorem dL_law_716 : decode cL_law 716 = .ok (.iload 9, 2) := by decide +kernel
theorem dL_law_718 : decode cL_law 718 = .ok (.iconst 3, 1) := by decide +kernel
theorem dL_law_719 : decode cL_law 719 = .ok (.ishr, 1) := by decide +kernel
theorem dL_law_720 : decode cL_law 720 = .ok (.iload 8, 2) := by decide +kernel
theorem dL_law_722 : decode cL_law 722 = .ok (.bipush 6, 2) := by decide +kernel
theorem dL_law_724 : decode cL_law 724 = .ok (.ishr, 1) := by decide +kernel
theorem dL_law_725 : decode cL_law 725 = .ok (.iconst 3, 1) := by decide +kernel
theorem dL_law_726 : decode cL_law 726 = .ok (.invokestatic 89, 3) := by decide +kernel
theorem dL_law_729 : decode cL_law 729 = .ok (.ifCond .ne 9, 3) := by decide +kernel
theorem dL_law_732 : decode cL_law 732 = .ok (.sipush 300, 3) := by decide +kernel
theorem dL_law_735 : decode cL_law 735 = .ok (.goto 5, 3) := by decide +kernel
theorem dL_law_738 : decode cL_law 738 = .ok (.bipush 40, 2) := by decide +kernel
theorem dL_law_740 : decode cL_law 740 = .ok (.invokestatic 89, 3) := by decide +kernel
theorem dL_law_743 : decode cL_law 743 = .ok (.iadd, 1) := by decide +kernel
theorem dL_law_744 : decode cL_law 744 = .ok (.istore 12, 2) := by decide +kernel
theorem dL_law_746 : decode cL_law 746 = .ok (.iconst 0, 1) := by decide +kernel
theorem dL_law_747 : decode cL_law 747 = .ok (.istore 13, 2) := by decide +kernel
theorem dL_law_749 : decode cL_law 749 = .ok (.iconst 0, 1) := by decide +kernel
theorem dL_law_750 : decode cL_law 750 = .ok (.istore 14, 2) := by decide +kernel
theorem dL_law_752 : decode cL_law 752 = .ok (.iload 14, 2) := by decide +kernel
theorem dL_law_754 : decode cL_law 754 = .ok (.iload 12, 2) := by decide +kernel
theorem dL_law_756 : decode cL_law 756 = .ok (.if_icmp .ge 33, 3) := by decide +kernel
theorem dL_law_759 : decode cL_law 759 = .ok (.iload 13, 2) := by decide +kernel
theorem dL_law_761 : decode cL_law 761 = .ok (.aload_n 2, 1) := by decide +kernel
theorem dL_law_762 : decode cL_law 762 = .ok (.aload_n 3, 1) := by decide +kernel
theorem dL_law_763 : decode cL_law 763 = .ok (.aload 4, 2) := by decide +kernel
theorem dL_law_765 : decode cL_law 765 = .ok (.aload 5, 2) := by decide +kernel
theorem dL_law_767 : decode cL_law 767 = .ok (.aload 6, 2) := by decide +kernel
theorem dL_law_769 : decode cL_law 769 = .ok (.invokestatic 28, 3) := by decide +kernel
theorem dL_law_772 : decode cL_law 772 = .ok (.ifCond .ge 7, 3) := by decide +kernel
theorem dL_law_775 : decode cL_law 775 = .ok (.iconst 0, 1) := by decide +kernel
theorem dL_law_776 : decode cL_law 776 = .ok (.goto 4, 3) := by decide +kernel
theorem dL_law_779 : decode cL_law 779 = .ok (.iconst 1, 1) := by decide +kernel
theorem dL_law_780 : decode cL_law 780 = .ok (.iadd, 1) := by decide +kernel
theorem dL_law_781 : decode cL_law 781 = .ok (.istore 13, 2) := by decide +kernel
theorem dL_law_783 : decode cL_law 783 = .ok (.iinc 14 1, 3) := by decide +kernel
theorem dL_law_786 : decode cL_law 786 = .ok (.goto (-34), 3) := by decide +kernel
theorem dL_law_789 : decode cL_law 789 = .ok (.aload_n 1, 1) := by decide +kernel
theorem dL_law_790 : decode cL_law 790 = .ok (.iload 12, 2) := by decide +kernel
theorem dL_law_792 : decode cL_law 792 = .ok (.invokevirtual 122, 3) := by decide +kernel
theorem dL_law_795 : decode cL_law 795 = .ok (.iload 13, 2) := by decide +kernel
theorem dL_law_797 : decode cL_law 797 = .ok (.if_icmp .eq 5, 3) := by decide +kernel
theorem dL_law_800 : decode cL_law 800 = .ok (.iconst 0, 1) := by decide +kernel
theorem dL_law_801 : decode cL_law 801 = .ok (.ireturn, 1) := by decide +kernel
theorem dL_law_802 : decode cL_law 802 = .ok (.goto 317, 3) := by decide +kernel
theorem dL_law_805 : decode cL_law 805 = .ok (.iload 10, 2) := by decide +kernel
theorem dL_law_807 : decode cL_law 807 = .ok (.bipush 12, 2) := by decide +kernel
theorem dL_law_809 : decode cL_law 809 = .ok (.if_icmp .ne 62, 3) := by decide +kernel
theorem dL_law_812 : decode cL_law 812 = .ok (.aload_n 2, 1) := by decide +kernel
theorem dL_law_813 : decode cL_law 813 = .ok (.iconst 5, 1) := by decide +kernel
theorem dL_law_814 : decode cL_law 814 = .ok (.iaload, 1) := by decide +kernel
theorem dL_law_815 : decode cL_law 815 = .ok (.ifCond .lt 7, 3) := by decide +kernel
theorem dL_law_818 : decode cL_law 818 = .ok (.iconst 1, 1) := by decide +kernel
theorem dL_law_819 : decode cL_law 819 = .ok (.goto 4, 3) := by decide +kernel
theorem dL_law_822 : decode cL_law 822 = .ok (.iconst 0, 1) := by decide +kernel
theorem dL_law_823 : decode cL_law 823 = .ok (.istore 12, 2) := by decide +kernel
theorem dL_law_825 : decode cL_law 825 = .ok (.aload_n 1, 1) := by decide +kernel
theorem dL_law_826 : decode cL_law 826 = .ok (.invokevirtual 125, 3) := by decide +kernel
theorem dL_law_829 : decode cL_law 829 = .ok (.iload 12, 2) := by decide +kernel
theorem dL_law_831 : decode cL_law 831 = .ok (.ifCond .eq 10, 3) := by decide +kernel
theorem dL_law_834 : decode cL_law 834 = .ok (.aload_n 2, 1) := by decide +kernel
theorem dL_law_835 : decode cL_law 835 = .ok (.bipush 6, 2) := by decide +kernel
theorem dL_law_837 : decode cL_law 837 = .ok (.iaload, 1) := by decide +kernel
theorem dL_law_838 : decode cL_law 838 = .ok (.goto 5, 3) := by decide +kernel
theorem dL_law_841 : decode cL_law 841 = .ok (.bipush (-3), 2) := by decide +kernel
theorem dL_law_843 : decode cL_law 843 = .ok (.if_icmp .eq 5, 3) := by decide +kernel
theorem dL_law_846 : decode cL_law 846 = .ok (.iconst 0, 1) := by decide +kernel
theorem dL_law_847 : decode cL_law 847 = .ok (.ireturn, 1) := by decide +kernel
theorem dL_law_848 : decode cL_law 848 = .ok (.iload 12, 2) := by decide +kernel
theorem dL_law_850 : decode cL_law 850 = .ok (.ifCond .eq 18, 3) := by decide +kernel
theorem dL_law_853 : decode cL_law 853 = .ok (.aload_n 2, 1) := by decide +kernel
theorem dL_law_854 : decode cL_law 854 = .ok (.iconst 5, 1) := by decide +kernel
theorem dL_law_855 : decode cL_law 855 = .ok (.bipush (-6), 2) := by decide +kernel
theorem dL_law_857 : decode cL_law 857 = .ok (.iastore, 1) := by decide +kernel
theorem dL_law_858 : decode cL_law 858 = .ok (.aload_n 2, 1) := by decide +kernel
theorem dL_law_859 : decode cL_law 859 = .ok (.bipush 6, 2) := by decide +kernel
theorem dL_law_861 : decode cL_law 861 = .ok (.iconst 0, 1) := by decide +kernel
theorem dL_law_862 : decode cL_law 862 = .ok (.iastore, 1) := by decide +kernel
theorem dL_law_863 : decode cL_law 863 = .ok (.aload_n 2, 1) := by decide +kernel
theorem dL_law_864 : decode cL_law 864 = .ok (.bipush 7, 2) := by decide +kernel
theorem dL_law_866 : decode cL_law 866 = .ok (.iconst 0, 1) := by decide +kernel
theorem dL_law_867 : decode cL_law 867 = .ok (.iastore, 1) := by decide +kernel
theorem dL_law_868 : decode cL_law 868 = .ok (.goto 251, 3) := by decide +kernel
theorem dL_law_871 : decode cL_law 871 = .ok (.iload 10, 2) := by decide +kernel
theorem dL_law_873 : decode cL_law 873 = .ok (.bipush 13, 2) := by decide +kernel
theorem dL_law_875 : decode cL_law 875 = .ok (.if_icmp .ne 33, 3) := by decide +kernel
theorem dL_law_878 : decode cL_law 878 = .ok (.iload 9, 2) := by decide +kernel
theorem dL_law_880 : decode cL_law 880 = .ok (.iconst 3, 1) := by decide +kernel
theorem dL_law_881 : decode cL_law 881 = .ok (.invokestatic 89, 3) := by decide +kernel
theorem dL_law_884 : decode cL_law 884 = .ok (.istore 12, 2) := by decide +kernel
theorem dL_law_886 : decode cL_law 886 = .ok (.aload_n 1, 1) := by decide +kernel
theorem dL_law_887 : decode cL_law 887 = .ok (.iload 12, 2) := by decide +kernel
theorem dL_law_889 : decode cL_law 889 = .ok (.invokevirtual 128, 3) := by decide +kernel
theorem dL_law_892 : decode cL_law 892 = .ok (.aload_n 2, 1) := by decide +kernel
theorem dL_law_893 : decode cL_law 893 = .ok (.iconst 4, 1) := by decide +kernel
theorem dL_law_894 : decode cL_law 894 = .ok (.iaload, 1) := by decide +kernel
theorem dL_law_895 : decode cL_law 895 = .ok (.if_icmp .eq 5, 3) := by decide +kernel
theorem dL_law_898 : decode cL_law 898 = .ok (.iconst 0, 1) := by decide +kernel
theorem dL_law_899 : decode cL_law 899 = .ok (.ireturn, 1) := by decide +kernel
theorem dL_law_900 : decode cL_law 900 = .ok (.aload_n 2, 1) := by decide +kernel
theorem dL_law_901 : decode cL_law 901 = .ok (.iconst 4, 1) := by decide +kernel
theorem dL_law_902 : decode cL_law 902 = .ok (.iload 12, 2) := by decide +kernel
theorem dL_law_904 : decode cL_law 904 = .ok (.iastore, 1) := by decide +kernel
theorem dL_law_905 : decode cL_law 905 = .ok (.goto 214, 3) := by decide +kernel
theorem dL_law_908 : decode cL_law 908 = .ok (.iload 10, 2) := by decide +kernel
theorem dL_law_910 : decode cL_law 910 = .ok (.bipush 14, 2) := by decide +kernel
theorem dL_law_912 : decode cL_law 912 = .ok (.if_icmp .ne 78, 3) := by decide +kernel
theorem dL_law_915 : decode cL_law 915 = .ok (.iconst 1, 1) := by decide +kernel
theorem dL_law_916 : decode cL_law 916 = .ok (.iload 9, 2) := by decide +kernel
theorem dL_law_918 : decode cL_law 918 = .ok (.iconst 2, 1) := by decide +kernel
theorem dL_law_919 : decode cL_law 919 = .ok (.invokestatic 89, 3) := by decide +kernel
theorem dL_law_922 : decode cL_law 922 = .ok (.iadd, 1) := by decide +kernel
theorem dL_law_923 : decode cL_law 923 = .ok (.istore 12, 2) := by decide +kernel
theorem dL_law_925 : decode cL_law 925 = .ok (.aload_n 2, 1) := by decide +kernel
theorem dL_law_926 : decode cL_law 926 = .ok (.iconst 3, 1) := by decide +kernel
theorem dL_law_927 : decode cL_law 927 = .ok (.iaload, 1) := by decide +kernel
theorem dL_law_928 : decode cL_law 928 = .ok (.iload 12, 2) := by decide +kernel
theorem dL_law_930 : decode cL_law 930 = .ok (.iadd, 1) := by decide +kernel
theorem dL_law_931 : decode cL_law 931 = .ok (.bipush 50, 2) := by decide +kernel
theorem dL_law_933 : decode cL_law 933 = .ok (.if_icmp .gt 7, 3) := by decide +kernel
theorem dL_law_936 : decode cL_law 936 = .ok (.iconst 1, 1) := by decide +kernel
theorem dL_law_937 : decode cL_law 937 = .ok (.goto 4, 3) := by decide +kernel
theorem dL_law_940 : decode cL_law 940 = .ok (.iconst 0, 1) := by decide +kernel
theorem dL_law_941 : decode cL_law 941 = .ok (.istore 13, 2) := by decide +kernel
theorem dL_law_943 : decode cL_law 943 = .ok (.aload_n 1, 1) := by decide +kernel
theorem dL_law_944 : decode cL_law 944 = .ok (.iload 12, 2) := by decide +kernel
theorem dL_law_946 : decode cL_law 946 = .ok (.invokevirtual 131, 3) := by decide +kernel
theorem dL_law_949 : decode cL_law 949 = .ok (.iload 13, 2) := by decide +kernel
theorem dL_law_951 : decode cL_law 951 = .ok (.ifCond .eq 12, 3) := by decide +kernel
theorem dL_law_954 : decode cL_law 954 = .ok (.aload_n 2, 1) := by decide +kernel
theorem dL_law_955 : decode cL_law 955 = .ok (.iconst 3, 1) := by decide +kernel
theorem dL_law_956 : decode cL_law 956 = .ok (.iaload, 1) := by decide +kernel
theorem dL_law_957 : decode cL_law 957 = .ok (.iload 12, 2) := by decide +kernel
theorem dL_law_959 : decode cL_law 959 = .ok (.iadd, 1) := by decide +kernel
theorem dL_law_960 : decode cL_law 960 = .ok (.goto 5, 3) := by decide +kernel
theorem dL_law_963 : decode cL_law 963 = .ok (.bipush (-4), 2) := by decide +kernel
theorem dL_law_965 : decode cL_law 965 = .ok (.if_icmp .eq 5, 3) := by decide +kernel
theorem dL_law_968 : decode cL_law 968 = .ok (.iconst 0, 1) := by decide +kernel
theorem dL_law_969 : decode cL_law 969 = .ok (.ireturn, 1) := by decide +kernel
theorem dL_law_970 : decode cL_law 970 = .ok (.aload_n 2, 1) := by decide +kernel
theorem dL_law_971 : decode cL_law 971 = .ok (.iconst 3, 1) := by decide +kernel
theorem dL_law_972 : decode cL_law 972 = .ok (.dup2, 1) := by decide +kernel
theorem dL_law_973 : decode cL_law 973 = .ok (.iaload, 1) := by decide +kernel
theorem dL_law_974 : decode cL_law 974 = .ok (.iload 13, 2) := by decide +kernel
theorem dL_law_976 : decode cL_law 976 = .ok (.ifCond .eq 8, 3) := by decide +kernel
theorem dL_law_979 : decode cL_law 979 = .ok (.iload 12, 2) := by decide +kernel
theorem dL_law_981 : decode cL_law 981 = .ok (.goto 4, 3) := by decide +kernel
theorem dL_law_984 : decode cL_law 984 = .ok (.iconst 0, 1) := by decide +kernel
theorem dL_law_985 : decode cL_law 985 = .ok (.iadd, 1) := by decide +kernel
theorem dL_law_986 : decode cL_law 986 = .ok (.iastore, 1) := by decide +kernel
theorem dL_law_987 : decode cL_law 987 = .ok (.goto 132, 3) := by decide +kernel
theorem dL_law_990 : decode cL_law 990 = .ok (.iload 9, 2) := by decide +kernel
theorem dL_law_992 : decode cL_law 992 = .ok (.iconst 5, 1) := by decide +kernel
theorem dL_law_993 : decode cL_law 993 = .ok (.invokestatic 89, 3) := by decide +kernel
theorem dL_law_996 : decode cL_law 996 = .ok (.istore 12, 2) := by decide +kernel
theorem dL_law_998 : decode cL_law 998 = .ok (.iload 12, 2) := by decide +kernel
theorem dL_law_1000 : decode cL_law 1000 = .ok (.ifCond .ne 15, 3) := by decide +kernel
theorem dL_law_1003 : decode cL_law 1003 = .ok (.iload 9, 2) := by decide +kernel
theorem dL_law_1005 : decode cL_law 1005 = .ok (.iconst 3, 1) := by decide +kernel
theorem dL_law_1006 : decode cL_law 1006 = .ok (.ishr, 1) := by decide +kernel
theorem dL_law_1007 : decode cL_law 1007 = .ok (.bipush 12, 2) := by decide +kernel
theorem dL_law_1009 : decode cL_law 1009 = .ok (.invokestatic 89, 3) := by decide +kernel
theorem dL_law_1012 : decode cL_law 1012 = .ok (.goto 76, 3) := by decide +kernel
theorem dL_law_1015 : decode cL_law 1015 = .ok (.iload 12, 2) := by decide +kernel
theorem dL_law_1017 : decode cL_law 1017 = .ok (.iconst 1, 1) := by decide +kernel
theorem dL_law_1018 : decode cL_law 1018 = .ok (.if_icmp .ne 17, 3) := by decide +kernel
theorem dL_law_1021 : decode cL_law 1021 = .ok (.iconst 1, 1) := by decide +kernel
theorem dL_law_1022 : decode cL_law 1022 = .ok (.iload 9, 2) := by decide +kernel
theorem dL_law_1024 : decode cL_law 1024 = .ok (.iconst 3, 1) := by decide +kernel
theorem dL_law_1025 : decode cL_law 1025 = .ok (.ishr, 1) := by decide +kernel
theorem dL_law_1026 : decode cL_law 1026 = .ok (.bipush 20, 2) := by decide +kernel
theorem dL_law_1028 : decode cL_law 1028 = .ok (.invokestatic 89, 3) := by decide +kernel
theorem dL_law_1031 : decode cL_law 1031 = .ok (.iadd, 1) := by decide +kernel
theorem dL_law_1032 : decode cL_law 1032 = .ok (.goto 56, 3) := by decide +kernel
theorem dL_law_1035 : decode cL_law 1035 = .ok (.iload 12, 2) := by decide +kernel
theorem dL_law_1037 : decode cL_law 1037 = .ok (.iconst 2, 1) := by decide +kernel
theorem dL_law_1038 : decode cL_law 1038 = .ok (.if_icmp .ne 17, 3) := by decide +kernel
theorem dL_law_1041 : decode cL_law 1041 = .ok (.iconst 1, 1) := by decide +kernel
theorem dL_law_1042 : decode cL_law 1042 = .ok (.iload 9, 2) := by decide +kernel
theorem dL_law_1044 : decode cL_law 1044 = .ok (.iconst 3, 1) := by decide +kernel
theorem dL_law_1045 : decode cL_law 1045 = .ok (.ishr, 1) := by decide +kernel
theorem dL_law_1046 : decode cL_law 1046 = .ok (.bipush 9, 2) := by decide +kernel
theorem dL_law_1048 : decode cL_law 1048 = .ok (.invokestatic 89, 3) := by decide +kernel
theorem dL_law_1051 : decode cL_law 1051 = .ok (.iadd, 1) := by decide +kernel
theorem dL_law_1052 : decode cL_law 1052 = .ok (.goto 36, 3) := by decide +kernel
theorem dL_law_1055 : decode cL_law 1055 = .ok (.iload 12, 2) := by decide +kernel
theorem dL_law_1057 : decode cL_law 1057 = .ok (.iconst 3, 1) := by decide +kernel
theorem dL_law_1058 : decode cL_law 1058 = .ok (.if_icmp .ne 17, 3) := by decide +kernel
theorem dL_law_1061 : decode cL_law 1061 = .ok (.iconst 2, 1) := by decide +kernel
theorem dL_law_1062 : decode cL_law 1062 = .ok (.iload 9, 2) := by decide +kernel
theorem dL_law_1064 : decode cL_law 1064 = .ok (.iconst 3, 1) := by decide +kernel
theorem dL_law_1065 : decode cL_law 1065 = .ok (.ishr, 1) := by decide +kernel
theorem dL_law_1066 : decode cL_law 1066 = .ok (.bipush 8, 2) := by decide +kernel
theorem dL_law_1068 : decode cL_law 1068 = .ok (.invokestatic 89, 3) := by decide +kernel
theorem dL_law_1071 : decode cL_law 1071 = .ok (.iadd, 1) := by decide +kernel
theorem dL_law_1072 : decode cL_law 1072 = .ok (.goto 16, 3) := by decide +kernel
theorem dL_law_1075 : decode cL_law 1075 = .ok (.bipush 50, 2) := by decide +kernel
theorem dL_law_1077 : decode cL_law 1077 = .ok (.iload 9, 2) := by decide +kernel
theorem dL_law_1079 : decode cL_law 1079 = .ok (.iconst 3, 1) := by decide +kernel
theorem dL_law_1080 : decode cL_law 1080 = .ok (.ishr, 1) := by decide +kernel
theorem dL_law_1081 : decode cL_law 1081 = .ok (.sipush 500, 3) := by decide +kernel
theorem dL_law_1084 : decode cL_law 1084 = .ok (.invokestatic 89, 3) := by decide +kernel
theorem dL_law_1087 : decode cL_law 1087 = .ok (.iadd, 1) := by decide +kernel
theorem dL_law_1088 : decode cL_law 1088 = .ok (.istore 13, 2) := by decide +kernel
theorem dL_law_1090 : decode cL_law 1090 = .ok (.aload_n 1, 1) := by decide +kernel
theorem dL_law_1091 : decode cL_law 1091 = .ok (.iload 12, 2) := by decide +kernel
theorem dL_law_1093 : decode cL_law 1093 = .ok (.iload 13, 2) := by decide +kernel
theorem dL_law_1095 : decode cL_law 1095 = .ok (.invokevirtual 134, 3) := by decide +kernel
theorem dL_law_1098 : decode cL_law 1098 = .ok (.aload_n 2, 1) := by decide +kernel
theorem dL_law_1099 : decode cL_law 1099 = .ok (.bipush 15, 2) := by decide +kernel
theorem dL_law_1101 : decode cL_law 1101 = .ok (.iload 12, 2) := by decide +kernel
theorem dL_law_1103 : decode cL_law 1103 = .ok (.iadd, 1) := by decide +kernel
theorem dL_law_1104 : decode cL_law 1104 = .ok (.iaload, 1) := by decide +kernel
theorem dL_law_1105 : decode cL_law 1105 = .ok (.if_icmp .eq 5, 3) := by decide +kernel
theorem dL_law_1108 : decode cL_law 1108 = .ok (.iconst 0, 1) := by decide +kernel
theorem dL_law_1109 : decode cL_law 1109 = .ok (.ireturn, 1) := by decide +kernel
theorem dL_law_1110 : decode cL_law 1110 = .ok (.aload_n 2, 1) := by decide +kernel
theorem dL_law_1111 : decode cL_law 1111 = .ok (.bipush 15, 2) := by decide +kernel
theorem dL_law_1113 : decode cL_law 1113 = .ok (.iload 12, 2) := by decide +kernel
theorem dL_law_1115 : decode cL_law 1115 = .ok (.iadd, 1) := by decide +kernel
theorem dL_law_1116 : decode cL_law 1116 = .ok (.iload 13, 2) := by decide +kernel
theorem dL_law_1118 : decode cL_law 1118 = .ok (.iastore, 1) := by decide +kernel
theorem dL_law_1119 : decode cL_law 1119 = .ok (.aload_n 1, 1) := by decide +kernel
theorem dL_law_1120 : decode cL_law 1120 = .ok (.iload 9, 2) := by decide +kernel
theorem dL_law_1122 : decode cL_law 1122 = .ok (.iconst 3, 1) := by decide +kernel
theorem dL_law_1123 : decode cL_law 1123 = .ok (.ishr, 1) := by decide +kernel
theorem dL_law_1124 : decode cL_law 1124 = .ok (.aload_n 2, 1) := by decide +kernel
theorem dL_law_1125 : decode cL_law 1125 = .ok (.aload_n 3, 1) := by decide +kernel
theorem dL_law_1126 : decode cL_law 1126 = .ok (.aload 4, 2) := by decide +kernel
theorem dL_law_1128 : decode cL_law 1128 = .ok (.aload 5, 2) := by decide +kernel
theorem dL_law_1130 : decode cL_law 1130 = .ok (.aload 6, 2) := by decide +kernel
theorem dL_law_1132 : decode cL_law 1132 = .ok (.invokestatic 137, 3) := by decide +kernel
theorem dL_law_1135 : decode cL_law 1135 = .ok (.ifCond .ne 5, 3) := by decide +kernel
theorem dL_law_1138 : decode cL_law 1138 = .ok (.iconst 0, 1) := by decide +kernel
theorem dL_law_1139 : decode cL_law 1139 = .ok (.ireturn, 1) := by decide +kernel
theorem dL_law_1140 : decode cL_law 1140 = .ok (.iinc 7 1, 3) := by decide +kernel
theorem dL_law_1143 : decode cL_law 1143 = .ok (.goto (-1060), 3) := by decide +kernel
theorem dL_law_1146 : decode cL_law 1146 = .ok (.iconst 1, 1) := by decide +kernel
theorem dL_law_1147 : decode cL_law 1147 = .ok (.ireturn, 1) := by decide +kernel
