theorem dL_law_541 : decode cL_law 541 = .ok (.if_icmp .eq 183, 3) := by decide +kernel
theorem dL_law_544 : decode cL_law 544 = .ok (.iconst 0, 1) := by decide +kernel
theorem dL_law_545 : decode cL_law 545 = .ok (.ireturn, 1) := by decide +kernel
theorem dL_law_546 : decode cL_law 546 = .ok (.aload_n 1, 1) := by decide +kernel
theorem dL_law_547 : decode cL_law 547 = .ok (.aload_n 0, 1) := by decide +kernel
theorem dL_law_548 : decode cL_law 548 = .ok (.iload_n 3, 1) := by decide +kernel
theorem dL_law_549 : decode cL_law 549 = .ok (.iconst 1, 1) := by decide +kernel
theorem dL_law_550 : decode cL_law 550 = .ok (.iadd, 1) := by decide +kernel
theorem dL_law_551 : decode cL_law 551 = .ok (.iaload, 1) := by decide +kernel
theorem dL_law_552 : decode cL_law 552 = .ok (.invokevirtual 74, 3) := by decide +kernel
theorem dL_law_555 : decode cL_law 555 = .ok (.aload_n 2, 1) := by decide +kernel
theorem dL_law_556 : decode cL_law 556 = .ok (.aload_n 0, 1) := by decide +kernel
theorem dL_law_557 : decode cL_law 557 = .ok (.iload_n 3, 1) := by decide +kernel
theorem dL_law_558 : decode cL_law 558 = .ok (.iconst 1, 1) := by decide +kernel
theorem dL_law_559 : decode cL_law 559 = .ok (.iadd, 1) := by decide +kernel
theorem dL_law_560 : decode cL_law 560 = .ok (.iaload, 1) := by decide +kernel
theorem dL_law_561 : decode cL_law 561 = .ok (.invokevirtual 77, 3) := by decide +kernel
theorem dL_law_564 : decode cL_law 564 = .ok (.if_icmp .eq 160, 3) := by decide +kernel
theorem dL_law_567 : decode cL_law 567 = .ok (.iconst 0, 1) := by decide +kernel
theorem dL_law_568 : decode cL_law 568 = .ok (.ireturn, 1) := by decide +kernel
theorem dL_law_569 : decode cL_law 569 = .ok (.aload_n 1, 1) := by decide +kernel
theorem dL_law_570 : decode cL_law 570 = .ok (.invokevirtual 78, 3) := by decide +kernel
theorem dL_law_573 : decode cL_law 573 = .ok (.aload_n 2, 1) := by decide +kernel
theorem dL_law_574 : decode cL_law 574 = .ok (.invokevirtual 81, 3) := by decide +kernel
theorem dL_law_577 : decode cL_law 577 = .ok (.if_icmp .eq 147, 3) := by decide +kernel
theorem dL_law_580 : decode cL_law 580 = .ok (.iconst 0, 1) := by decide +kernel
theorem dL_law_581 : decode cL_law 581 = .ok (.ireturn, 1) := by decide +kernel
theorem dL_law_582 : decode cL_law 582 = .ok (.aload_n 1, 1) := by decide +kernel
theorem dL_law_583 : decode cL_law 583 = .ok (.aload_n 0, 1) := by decide +kernel
theorem dL_law_584 : decode cL_law 584 = .ok (.iload_n 3, 1) := by decide +kernel
theorem dL_law_585 : decode cL_law 585 = .ok (.iconst 1, 1) := by decide +kernel
theorem dL_law_586 : decode cL_law 586 = .ok (.iadd, 1) := by decide +kernel
theorem dL_law_587 : decode cL_law 587 = .ok (.iaload, 1) := by decide +kernel
theorem dL_law_588 : decode cL_law 588 = .ok (.aload_n 0, 1) := by decide +kernel
theorem dL_law_589 : decode cL_law 589 = .ok (.iload_n 3, 1) := by decide +kernel
theorem dL_law_590 : decode cL_law 590 = .ok (.iconst 2, 1) := by decide +kernel
theorem dL_law_591 : decode cL_law 591 = .ok (.iadd, 1) := by decide +kernel
theorem dL_law_592 : decode cL_law 592 = .ok (.iaload, 1) := by decide +kernel
theorem dL_law_593 : decode cL_law 593 = .ok (.invokevirtual 82, 3) := by decide +kernel
theorem dL_law_596 : decode cL_law 596 = .ok (.aload_n 2, 1) := by decide +kernel
theorem dL_law_597 : decode cL_law 597 = .ok (.aload_n 0, 1) := by decide +kernel
theorem dL_law_598 : decode cL_law 598 = .ok (.iload_n 3, 1) := by decide +kernel
theorem dL_law_599 : decode cL_law 599 = .ok (.iconst 1, 1) := by decide +kernel
theorem dL_law_600 : decode cL_law 600 = .ok (.iadd, 1) := by decide +kernel
theorem dL_law_601 : decode cL_law 601 = .ok (.iaload, 1) := by decide +kernel
theorem dL_law_602 : decode cL_law 602 = .ok (.aload_n 0, 1) := by decide +kernel
theorem dL_law_603 : decode cL_law 603 = .ok (.iload_n 3, 1) := by decide +kernel
theorem dL_law_604 : decode cL_law 604 = .ok (.iconst 2, 1) := by decide +kernel
theorem dL_law_605 : decode cL_law 605 = .ok (.iadd, 1) := by decide +kernel
theorem dL_law_606 : decode cL_law 606 = .ok (.iaload, 1) := by decide +kernel
theorem dL_law_607 : decode cL_law 607 = .ok (.invokevirtual 85, 3) := by decide +kernel
theorem dL_law_610 : decode cL_law 610 = .ok (.if_icmp .eq 114, 3) := by decide +kernel
theorem dL_law_613 : decode cL_law 613 = .ok (.iconst 0, 1) := by decide +kernel
theorem dL_law_614 : decode cL_law 614 = .ok (.ireturn, 1) := by decide +kernel
theorem dL_law_615 : decode cL_law 615 = .ok (.aload_n 1, 1) := by decide +kernel
theorem dL_law_616 : decode cL_law 616 = .ok (.aload_n 0, 1) := by decide +kernel
theorem dL_law_617 : decode cL_law 617 = .ok (.iload_n 3, 1) := by decide +kernel
theorem dL_law_618 : decode cL_law 618 = .ok (.iconst 1, 1) := by decide +kernel
theorem dL_law_619 : decode cL_law 619 = .ok (.iadd, 1) := by decide +kernel
theorem dL_law_620 : decode cL_law 620 = .ok (.iaload, 1) := by decide +kernel
theorem dL_law_621 : decode cL_law 621 = .ok (.aload_n 0, 1) := by decide +kernel
theorem dL_law_622 : decode cL_law 622 = .ok (.iload_n 3, 1) := by decide +kernel
theorem dL_law_623 : decode cL_law 623 = .ok (.iconst 2, 1) := by decide +kernel
theorem dL_law_624 : decode cL_law 624 = .ok (.iadd, 1) := by decide +kernel
theorem dL_law_625 : decode cL_law 625 = .ok (.iaload, 1) := by decide +kernel
theorem dL_law_626 : decode cL_law 626 = .ok (.aload_n 0, 1) := by decide +kernel
theorem dL_law_627 : decode cL_law 627 = .ok (.iload_n 3, 1) := by decide +kernel
theorem dL_law_628 : decode cL_law 628 = .ok (.iconst 3, 1) := by decide +kernel
theorem dL_law_629 : decode cL_law 629 = .ok (.iadd, 1) := by decide +kernel
theorem dL_law_630 : decode cL_law 630 = .ok (.iaload, 1) := by decide +kernel
theorem dL_law_631 : decode cL_law 631 = .ok (.invokevirtual 86, 3) := by decide +kernel
theorem dL_law_634 : decode cL_law 634 = .ok (.aload_n 2, 1) := by decide +kernel
theorem dL_law_635 : decode cL_law 635 = .ok (.aload_n 0, 1) := by decide +kernel
theorem dL_law_636 : decode cL_law 636 = .ok (.iload_n 3, 1) := by decide +kernel
theorem dL_law_637 : decode cL_law 637 = .ok (.iconst 1, 1) := by decide +kernel
theorem dL_law_638 : decode cL_law 638 = .ok (.iadd, 1) := by decide +kernel
theorem dL_law_639 : decode cL_law 639 = .ok (.iaload, 1) := by decide +kernel
theorem dL_law_640 : decode cL_law 640 = .ok (.aload_n 0, 1) := by decide +kernel
theorem dL_law_641 : decode cL_law 641 = .ok (.iload_n 3, 1) := by decide +kernel
theorem dL_law_642 : decode cL_law 642 = .ok (.iconst 2, 1) := by decide +kernel
theorem dL_law_643 : decode cL_law 643 = .ok (.iadd, 1) := by decide +kernel
theorem dL_law_644 : decode cL_law 644 = .ok (.iaload, 1) := by decide +kernel
theorem dL_law_645 : decode cL_law 645 = .ok (.aload_n 0, 1) := by decide +kernel
theorem dL_law_646 : decode cL_law 646 = .ok (.iload_n 3, 1) := by decide +kernel
theorem dL_law_647 : decode cL_law 647 = .ok (.iconst 3, 1) := by decide +kernel
theorem dL_law_648 : decode cL_law 648 = .ok (.iadd, 1) := by decide +kernel
theorem dL_law_649 : decode cL_law 649 = .ok (.iaload, 1) := by decide +kernel
theorem dL_law_650 : decode cL_law 650 = .ok (.invokevirtual 89, 3) := by decide +kernel
theorem dL_law_653 : decode cL_law 653 = .ok (.if_icmp .eq 71, 3) := by decide +kernel
theorem dL_law_656 : decode cL_law 656 = .ok (.iconst 0, 1) := by decide +kernel
theorem dL_law_657 : decode cL_law 657 = .ok (.ireturn, 1) := by decide +kernel
theorem dL_law_658 : decode cL_law 658 = .ok (.aload_n 1, 1) := by decide +kernel
theorem dL_law_659 : decode cL_law 659 = .ok (.aload_n 0, 1) := by decide +kernel
theorem dL_law_660 : decode cL_law 660 = .ok (.iload_n 3, 1) := by decide +kernel
theorem dL_law_661 : decode cL_law 661 = .ok (.iconst 1, 1) := by decide +kernel
theorem dL_law_662 : decode cL_law 662 = .ok (.iadd, 1) := by decide +kernel
theorem dL_law_663 : decode cL_law 663 = .ok (.iaload, 1) := by decide +kernel
theorem dL_law_664 : decode cL_law 664 = .ok (.aload_n 0, 1) := by decide +kernel
theorem dL_law_665 : decode cL_law 665 = .ok (.iload_n 3, 1) := by decide +kernel
theorem dL_law_666 : decode cL_law 666 = .ok (.iconst 2, 1) := by decide +kernel
theorem dL_law_667 : decode cL_law 667 = .ok (.iadd, 1) := by decide +kernel
theorem dL_law_668 : decode cL_law 668 = .ok (.iaload, 1) := by decide +kernel
theorem dL_law_669 : decode cL_law 669 = .ok (.aload_n 0, 1) := by decide +kernel
theorem dL_law_670 : decode cL_law 670 = .ok (.iload_n 3, 1) := by decide +kernel
theorem dL_law_671 : decode cL_law 671 = .ok (.iconst 3, 1) := by decide +kernel
theorem dL_law_672 : decode cL_law 672 = .ok (.iadd, 1) := by decide +kernel
theorem dL_law_673 : decode cL_law 673 = .ok (.iaload, 1) := by decide +kernel
theorem dL_law_674 : decode cL_law 674 = .ok (.invokevirtual 90, 3) := by decide +kernel
theorem dL_law_677 : decode cL_law 677 = .ok (.aload_n 2, 1) := by decide +kernel
theorem dL_law_678 : decode cL_law 678 = .ok (.aload_n 0, 1) := by decide +kernel
theorem dL_law_679 : decode cL_law 679 = .ok (.iload_n 3, 1) := by decide +kernel
theorem dL_law_680 : decode cL_law 680 = .ok (.iconst 1, 1) := by decide +kernel
theorem dL_law_681 : decode cL_law 681 = .ok (.iadd, 1) := by decide +kernel
theorem dL_law_682 : decode cL_law 682 = .ok (.iaload, 1) := by decide +kernel
theorem dL_law_683 : decode cL_law 683 = .ok (.aload_n 0, 1) := by decide +kernel
theorem dL_law_684 : decode cL_law 684 = .ok (.iload_n 3, 1) := by decide +kernel
theorem dL_law_685 : decode cL_law 685 = .ok (.iconst 2, 1) := by decide +kernel
theorem dL_law_686 : decode cL_law 686 = .ok (.iadd, 1) := by decide +kernel
theorem dL_law_687 : decode cL_law 687 = .ok (.iaload, 1) := by decide +kernel
theorem dL_law_688 : decode cL_law 688 = .ok (.aload_n 0, 1) := by decide +kernel
theorem dL_law_689 : decode cL_law 689 = .ok (.iload_n 3, 1) := by decide +kernel
theorem dL_law_690 : decode cL_law 690 = .ok (.iconst 3, 1) := by decide +kernel
theorem dL_law_691 : decode cL_law 691 = .ok (.iadd, 1) := by decide +kernel
theorem dL_law_692 : decode cL_law 692 = .ok (.iaload, 1) := by decide +kernel
theorem dL_law_693 : decode cL_law 693 = .ok (.invokevirtual 93, 3) := by decide +kernel
theorem dL_law_696 : decode cL_law 696 = .ok (.if_icmp .eq 28, 3) := by decide +kernel
theorem dL_law_699 : decode cL_law 699 = .ok (.iconst 0, 1) := by decide +kernel
theorem dL_law_700 : decode cL_law 700 = .ok (.ireturn, 1) := by decide +kernel
theorem dL_law_701 : decode cL_law 701 = .ok (.aload_n 1, 1) := by decide +kernel
theorem dL_law_702 : decode cL_law 702 = .ok (.aload_n 0, 1) := by decide +kernel
theorem dL_law_703 : decode cL_law 703 = .ok (.iload_n 3, 1) := by decide +kernel
theorem dL_law_704 : decode cL_law 704 = .ok (.iconst 1, 1) := by decide +kernel
theorem dL_law_705 : decode cL_law 705 = .ok (.iadd, 1) := by decide +kernel
theorem dL_law_706 : decode cL_law 706 = .ok (.iaload, 1) := by decide +kernel
theorem dL_law_707 : decode cL_law 707 = .ok (.invokevirtual 94, 3) := by decide +kernel
theorem dL_law_710 : decode cL_law 710 = .ok (.aload_n 2, 1) := by decide +kernel
theorem dL_law_711 : decode cL_law 711 = .ok (.aload_n 0, 1) := by decide +kernel
theorem dL_law_712 : decode cL_law 712 = .ok (.iload_n 3, 1) := by decide +kernel
theorem dL_law_713 : decode cL_law 713 = .ok (.iconst 1, 1) := by decide +kernel
theorem dL_law_714 : decode cL_law 714 = .ok (.iadd, 1) := by decide +kernel
theorem dL_law_715 : decode cL_law 715 = .ok (.iaload, 1) := by decide +kernel
theorem dL_law_716 : decode cL_law 716 = .ok (.invokevirtual 97, 3) := by decide +kernel
theorem dL_law_719 : decode cL_law 719 = .ok (.if_icmp .eq 5, 3) := by decide +kernel
theorem dL_law_722 : decode cL_law 722 = .ok (.iconst 0, 1) := by decide +kernel
theorem dL_law_723 : decode cL_law 723 = .ok (.ireturn, 1) := by decide +kernel
theorem dL_law_724 : decode cL_law 724 = .ok (.iinc 3 5, 3) := by decide +kernel
theorem dL_law_727 : decode cL_law 727 = .ok (.goto (-709), 3) := by decide +kernel
theorem dL_law_730 : decode cL_law 730 = .ok (.iconst 1, 1) := by decide +kernel
theorem dL_law_731 : decode cL_law 731 = .ok (.ireturn, 1) := by decide +kernel
theorem dX9_init_0 : decode cX9_init 0 = .ok (.aload_n 0, 1) := by decide +kernel
theorem dX9_init_1 : decode cX9_init 1 = .ok (.invokespecial 1, 3) := by decide +kernel
theorem dX9_init_4 : decode cX9_init 4 = .ok (.aload_n 0, 1) := by decide +kernel
theorem dX9_init_5 : decode cX9_init 5 = .ok (.bipush 24, 2) := by decide +kernel
theorem dX9_init_7 : decode cX9_init 7 = .ok (.newarray .int, 2) := by decide +kernel
theorem dX9_init_9 : decode cX9_init 9 = .ok (.putfield 7, 3) := by decide +kernel
theorem dX9_init_12 : decode cX9_init 12 = .ok (.aload_n 0, 1) := by decide +kernel
theorem dX9_init_13 : decode cX9_init 13 = .ok (.bipush 24, 2) := by decide +kernel
theorem dX9_init_15 : decode cX9_init 15 = .ok (.newarray .int, 2) := by decide +kernel
theorem dX9_init_17 : decode cX9_init 17 = .ok (.putfield 13, 3) := by decide +kernel
theorem dX9_init_20 : decode cX9_init 20 = .ok (.aload_n 0, 1) := by decide +kernel
theorem dX9_init_21 : decode cX9_init 21 = .ok (.bipush 24, 2) := by decide +kernel
theorem dX9_init_23 : decode cX9_init 23 = .ok (.newarray .int, 2) := by decide +kernel
theorem dX9_init_25 : decode cX9_init 25 = .ok (.putfield 16, 3) := by decide +kernel
theorem dX9_init_28 : decode cX9_init 28 = .ok (.aload_n 0, 1) := by decide +kernel
theorem dX9_init_29 : decode cX9_init 29 = .ok (.bipush 60, 2) := by decide +kernel
theorem dX9_init_31 : decode cX9_init 31 = .ok (.newarray .int, 2) := by decide +kernel
theorem dX9_init_33 : decode cX9_init 33 = .ok (.putfield 19, 3) := by decide +kernel
theorem dX9_init_36 : decode cX9_init 36 = .ok (.aload_n 0, 1) := by decide +kernel
theorem dX9_init_37 : decode cX9_init 37 = .ok (.bipush 60, 2) := by decide +kernel
theorem dX9_init_39 : decode cX9_init 39 = .ok (.newarray .int, 2) := by decide +kernel
theorem dX9_init_41 : decode cX9_init 41 = .ok (.putfield 22, 3) := by decide +kernel
theorem dX9_init_44 : decode cX9_init 44 = .ok (.aload_n 0, 1) := by decide +kernel
theorem dX9_init_45 : decode cX9_init 45 = .ok (.bipush 60, 2) := by decide +kernel
theorem dX9_init_47 : decode cX9_init 47 = .ok (.newarray .int, 2) := by decide +kernel
theorem dX9_init_49 : decode cX9_init 49 = .ok (.putfield 25, 3) := by decide +kernel
theorem dX9_init_52 : decode cX9_init 52 = .ok (.aload_n 0, 1) := by decide +kernel
theorem dX9_init_53 : decode cX9_init 53 = .ok (.bipush 60, 2) := by decide +kernel
theorem dX9_init_55 : decode cX9_init 55 = .ok (.newarray .boolean, 2) := by decide +kernel
theorem dX9_init_57 : decode cX9_init 57 = .ok (.putfield 28, 3) := by decide +kernel
theorem dX9_init_60 : decode cX9_init 60 = .ok (.aload_n 0, 1) := by decide +kernel
theorem dX9_init_61 : decode cX9_init 61 = .ok (.bipush 24, 2) := by decide +kernel
theorem dX9_init_63 : decode cX9_init 63 = .ok (.newarray .boolean, 2) := by decide +kernel
theorem dX9_init_65 : decode cX9_init 65 = .ok (.putfield 32, 3) := by decide +kernel
theorem dX9_init_68 : decode cX9_init 68 = .ok (.aload_n 0, 1) := by decide +kernel
theorem dX9_init_69 : decode cX9_init 69 = .ok (.bipush 24, 2) := by decide +kernel
theorem dX9_init_71 : decode cX9_init 71 = .ok (.newarray .int, 2) := by decide +kernel
theorem dX9_init_73 : decode cX9_init 73 = .ok (.putfield 35, 3) := by decide +kernel
theorem dX9_init_76 : decode cX9_init 76 = .ok (.aload_n 0, 1) := by decide +kernel
theorem dX9_init_77 : decode cX9_init 77 = .ok (.bipush 24, 2) := by decide +kernel
theorem dX9_init_79 : decode cX9_init 79 = .ok (.newarray .int, 2) := by decide +kernel
theorem dX9_init_81 : decode cX9_init 81 = .ok (.putfield 38, 3) := by decide +kernel
theorem dX9_init_84 : decode cX9_init 84 = .ok (.aload_n 0, 1) := by decide +kernel
theorem dX9_init_85 : decode cX9_init 85 = .ok (.bipush 24, 2) := by decide +kernel
theorem dX9_init_87 : decode cX9_init 87 = .ok (.newarray .int, 2) := by decide +kernel
theorem dX9_init_89 : decode cX9_init 89 = .ok (.putfield 41, 3) := by decide +kernel
theorem dX9_init_92 : decode cX9_init 92 = .ok (.aload_n 0, 1) := by decide +kernel
theorem dX9_init_93 : decode cX9_init 93 = .ok (.bipush 24, 2) := by decide +kernel
theorem dX9_init_95 : decode cX9_init 95 = .ok (.newarray .boolean, 2) := by decide +kernel
theorem dX9_init_97 : decode cX9_init 97 = .ok (.putfield 44, 3) := by decide +kernel
theorem dX9_init_100 : decode cX9_init 100 = .ok (.aload_n 0, 1) := by decide +kernel
theorem dX9_init_101 : decode cX9_init 101 = .ok (.bipush 24, 2) := by decide +kernel
theorem dX9_init_103 : decode cX9_init 103 = .ok (.newarray .int, 2) := by decide +kernel
theorem dX9_init_105 : decode cX9_init 105 = .ok (.putfield 47, 3) := by decide +kernel
theorem dX9_init_108 : decode cX9_init 108 = .ok (.aload_n 0, 1) := by decide +kernel
theorem dX9_init_109 : decode cX9_init 109 = .ok (.bipush 24, 2) := by decide +kernel
theorem dX9_init_111 : decode cX9_init 111 = .ok (.newarray .int, 2) := by decide +kernel
theorem dX9_init_113 : decode cX9_init 113 = .ok (.putfield 50, 3) := by decide +kernel
theorem dX9_init_116 : decode cX9_init 116 = .ok (.aload_n 0, 1) := by decide +kernel
theorem dX9_init_117 : decode cX9_init 117 = .ok (.bipush 24, 2) := by decide +kernel
theorem dX9_init_119 : decode cX9_init 119 = .ok (.newarray .boolean, 2) := by decide +kernel
theorem dX9_init_121 : decode cX9_init 121 = .ok (.putfield 53, 3) := by decide +kernel
theorem dX9_init_124 : decode cX9_init 124 = .ok (.aload_n 0, 1) := by decide +kernel
theorem dX9_init_125 : decode cX9_init 125 = .ok (.bipush 24, 2) := by decide +kernel
theorem dX9_init_127 : decode cX9_init 127 = .ok (.newarray .int, 2) := by decide +kernel
theorem dX9_init_129 : decode cX9_init 129 = .ok (.putfield 56, 3) := by decide +kernel
theorem dX9_init_132 : decode cX9_init 132 = .ok (.aload_n 0, 1) := by decide +kernel
theorem dX9_init_133 : decode cX9_init 133 = .ok (.bipush 24, 2) := by decide +kernel
theorem dX9_init_135 : decode cX9_init 135 = .ok (.newarray .int, 2) := by decide +kernel
theorem dX9_init_137 : decode cX9_init 137 = .ok (.putfield 59, 3) := by decide +kernel
theorem dX9_init_140 : decode cX9_init 140 = .ok (.aload_n 0, 1) := by decide +kernel
theorem dX9_init_141 : decode cX9_init 141 = .ok (.bipush 24, 2) := by decide +kernel
theorem dX9_init_143 : decode cX9_init 143 = .ok (.newarray .int, 2) := by decide +kernel
theorem dX9_init_145 : decode cX9_init 145 = .ok (.putfield 62, 3) := by decide +kernel
theorem dX9_init_148 : decode cX9_init 148 = .ok (.aload_n 0, 1) := by decide +kernel
theorem dX9_init_149 : decode cX9_init 149 = .ok (.bipush 24, 2) := by decide +kernel
theorem dX9_init_151 : decode cX9_init 151 = .ok (.newarray .int, 2) := by decide +kernel
theorem dX9_init_153 : decode cX9_init 153 = .ok (.putfield 65, 3) := by decide +kernel
theorem dX9_init_156 : decode cX9_init 156 = .ok (.aload_n 0, 1) := by decide +kernel
theorem dX9_init_157 : decode cX9_init 157 = .ok (.bipush 24, 2) := by decide +kernel
theorem dX9_init_159 : decode cX9_init 159 = .ok (.newarray .boolean, 2) := by decide +kernel
theorem dX9_init_161 : decode cX9_init 161 = .ok (.putfield 68, 3) := by decide +kernel
theorem dX9_init_164 : decode cX9_init 164 = .ok (.aload_n 0, 1) := by decide +kernel
theorem dX9_init_165 : decode cX9_init 165 = .ok (.bipush 24, 2) := by decide +kernel
theorem dX9_init_167 : decode cX9_init 167 = .ok (.newarray .int, 2) := by decide +kernel
theorem dX9_init_169 : decode cX9_init 169 = .ok (.putfield 71, 3) := by decide +kernel
theorem dX9_init_172 : decode cX9_init 172 = .ok (.aload_n 0, 1) := by decide +kernel
theorem dX9_init_173 : decode cX9_init 173 = .ok (.bipush 24, 2) := by decide +kernel
theorem dX9_init_175 : decode cX9_init 175 = .ok (.newarray .int, 2) := by decide +kernel
theorem dX9_init_177 : decode cX9_init 177 = .ok (.putfield 74, 3) := by decide +kernel
theorem dX9_init_180 : decode cX9_init 180 = .ok (.aload_n 0, 1) := by decide +kernel
theorem dX9_init_181 : decode cX9_init 181 = .ok (.bipush 24, 2) := by decide +kernel
theorem dX9_init_183 : decode cX9_init 183 = .ok (.newarray .int, 2) := by decide +kernel
theorem dX9_init_185 : decode cX9_init 185 = .ok (.putfield 77, 3) := by decide +kernel
theorem dX9_init_188 : decode cX9_init 188 = .ok (.aload_n 0, 1) := by decide +kernel
theorem dX9_init_189 : decode cX9_init 189 = .ok (.bipush 24, 2) := by decide +kernel
theorem dX9_init_191 : decode cX9_init 191 = .ok (.newarray .int, 2) := by decide +kernel
theorem dX9_init_193 : decode cX9_init 193 = .ok (.putfield 80, 3) := by decide +kernel
theorem dX9_init_196 : decode cX9_init 196 = .ok (.aload_n 0, 1) := by decide +kernel
theorem dX9_init_197 : decode cX9_init 197 = .ok (.bipush 24, 2) := by decide +kernel
theorem dX9_init_199 : decode cX9_init 199 = .ok (.newarray .int, 2) := by decide +kernel
theorem dX9_init_201 : decode cX9_init 201 = .ok (.putfield 83, 3) := by decide +kernel
theorem dX9_init_204 : decode cX9_init 204 = .ok (.return_, 1) := by decide +kernel
theorem dX9_in_0 : decode cX9_in 0 = .ok (.iload_n 0, 1) := by decide +kernel
theorem dX9_in_1 : decode cX9_in 1 = .ok (.iload_n 1, 1) := by decide +kernel
theorem dX9_in_2 : decode cX9_in 2 = .ok (.if_icmp .lt 12, 3) := by decide +kernel
theorem dX9_in_5 : decode cX9_in 5 = .ok (.iload_n 0, 1) := by decide +kernel
theorem dX9_in_6 : decode cX9_in 6 = .ok (.iload_n 2, 1) := by decide +kernel
theorem dX9_in_7 : decode cX9_in 7 = .ok (.if_icmp .gt 7, 3) := by decide +kernel
theorem dX9_in_10 : decode cX9_in 10 = .ok (.iconst 1, 1) := by decide +kernel
theorem dX9_in_11 : decode cX9_in 11 = .ok (.goto 4, 3) := by decide +kernel
theorem dX9_in_14 : decode cX9_in 14 = .ok (.iconst 0, 1) := by decide +kernel
theorem dX9_in_15 : decode cX9_in 15 = .ok (.ireturn, 1) := by decide +kernel
theorem dX9_isRoom_0 : decode cX9_isRoom 0 = .ok (.iload_n 1, 1) := by decide +kernel
theorem dX9_isRoom_1 : decode cX9_isRoom 1 = .ok (.iconst 0, 1) := by decide +kernel
theorem dX9_isRoom_2 : decode cX9_isRoom 2 = .ok (.aload_n 0, 1) := by decide +kernel
theorem dX9_isRoom_3 : decode cX9_isRoom 3 = .ok (.getfield 86, 3) := by decide +kernel
theorem dX9_isRoom_6 : decode cX9_isRoom 6 = .ok (.iconst 1, 1) := by decide +kernel
theorem dX9_isRoom_7 : decode cX9_isRoom 7 = .ok (.isub, 1) := by decide +kernel
theorem dX9_isRoom_8 : decode cX9_isRoom 8 = .ok (.invokestatic 90, 3) := by decide +kernel
theorem dX9_isRoom_11 : decode cX9_isRoom 11 = .ok (.ireturn, 1) := by decide +kernel
theorem dX9_opposite_0 : decode cX9_opposite 0 = .ok (.iload_n 0, 1) := by decide +kernel
theorem dX9_opposite_1 : decode cX9_opposite 1 = .ok (.bipush 8, 2) := by decide +kernel
theorem dX9_opposite_3 : decode cX9_opposite 3 = .ok (.if_icmp .ge 12, 3) := by decide +kernel
theorem dX9_opposite_6 : decode cX9_opposite 6 = .ok (.iload_n 0, 1) := by decide +kernel
theorem dX9_opposite_7 : decode cX9_opposite 7 = .ok (.iconst 4, 1) := by decide +kernel
theorem dX9_opposite_8 : decode cX9_opposite 8 = .ok (.iadd, 1) := by decide +kernel
theorem dX9_opposite_9 : decode cX9_opposite 9 = .ok (.bipush 8, 2) := by decide +kernel
theorem dX9_opposite_11 : decode cX9_opposite 11 = .ok (.irem, 1) := by decide +kernel
theorem dX9_opposite_12 : decode cX9_opposite 12 = .ok (.goto 7, 3) := by decide +kernel
theorem dX9_opposite_15 : decode cX9_opposite 15 = .ok (.bipush 17, 2) := by decide +kernel
theorem dX9_opposite_17 : decode cX9_opposite 17 = .ok (.iload_n 0, 1) := by decide +kernel
theorem dX9_opposite_18 : decode cX9_opposite 18 = .ok (.isub, 1) := by decide +kernel
theorem dX9_opposite_19 : decode cX9_opposite 19 = .ok (.ireturn, 1) := by decide +kernel
theorem dX9_east_0 : decode cX9_east 0 = .ok (.iload_n 0, 1) := by decide +kernel
theorem dX9_east_1 : decode cX9_east 1 = .ok (.iconst 1, 1) := by decide +kernel
theorem dX9_east_2 : decode cX9_east 2 = .ok (.iconst 3, 1) := by decide +kernel
theorem dX9_east_3 : decode cX9_east 3 = .ok (.invokestatic 90, 3) := by decide +kernel
theorem dX9_east_6 : decode cX9_east 6 = .ok (.ifCond .eq 7, 3) := by decide +kernel
theorem dX9_east_9 : decode cX9_east 9 = .ok (.iconst 1, 1) := by decide +kernel
theorem dX9_east_10 : decode cX9_east 10 = .ok (.goto 18, 3) := by decide +kernel
theorem dX9_east_13 : decode cX9_east 13 = .ok (.iload_n 0, 1) := by decide +kernel
theorem dX9_east_14 : decode cX9_east 14 = .ok (.iconst 5, 1) := by decide +kernel
theorem dX9_east_15 : decode cX9_east 15 = .ok (.bipush 7, 2) := by decide +kernel
theorem dX9_east_17 : decode cX9_east 17 = .ok (.invokestatic 90, 3) := by decide +kernel
theorem dX9_east_20 : decode cX9_east 20 = .ok (.ifCond .eq 7, 3) := by decide +kernel
theorem dX9_east_23 : decode cX9_east 23 = .ok (.iconst (-1), 1) := by decide +kernel
theorem dX9_east_24 : decode cX9_east 24 = .ok (.goto 4, 3) := by decide +kernel
theorem dX9_east_27 : decode cX9_east 27 = .ok (.iconst 0, 1) := by decide +kernel
theorem dX9_east_28 : decode cX9_east 28 = .ok (.ireturn, 1) := by decide +kernel
theorem dX9_south_0 : decode cX9_south 0 = .ok (.iload_n 0, 1) := by decide +kernel
theorem dX9_south_1 : decode cX9_south 1 = .ok (.iconst 3, 1) := by decide +kernel
theorem dX9_south_2 : decode cX9_south 2 = .ok (.iconst 5, 1) := by decide +kernel
theorem dX9_south_3 : decode cX9_south 3 = .ok (.invokestatic 90, 3) := by decide +kernel
theorem dX9_south_6 : decode cX9_south 6 = .ok (.ifCond .eq 7, 3) := by decide +kernel
theorem dX9_south_9 : decode cX9_south 9 = .ok (.iconst 1, 1) := by decide +kernel
theorem dX9_south_10 : decode cX9_south 10 = .ok (.goto 23, 3) := by decide +kernel
theorem dX9_south_13 : decode cX9_south 13 = .ok (.iload_n 0, 1) := by decide +kernel
theorem dX9_south_14 : decode cX9_south 14 = .ok (.bipush 7, 2) := by decide +kernel
theorem dX9_south_16 : decode cX9_south 16 = .ok (.if_icmp .eq 12, 3) := by decide +kernel
theorem dX9_south_19 : decode cX9_south 19 = .ok (.iload_n 0, 1) := by decide +kernel
theorem dX9_south_20 : decode cX9_south 20 = .ok (.ifCond .eq 8, 3) := by decide +kernel
theorem dX9_south_23 : decode cX9_south 23 = .ok (.iload_n 0, 1) := by decide +kernel
theorem dX9_south_24 : decode cX9_south 24 = .ok (.iconst 1, 1) := by decide +kernel
theorem dX9_south_25 : decode cX9_south 25 = .ok (.if_icmp .ne 7, 3) := by decide +kernel
theorem dX9_south_28 : decode cX9_south 28 = .ok (.iconst (-1), 1) := by decide +kernel
theorem dX9_south_29 : decode cX9_south 29 = .ok (.goto 4, 3) := by decide +kernel
theorem dX9_south_32 : decode cX9_south 32 = .ok (.iconst 0, 1) := by decide +kernel
theorem dX9_south_33 : decode cX9_south 33 = .ok (.ireturn, 1) := by decide +kernel
theorem dX9_up_0 : decode cX9_up 0 = .ok (.iload_n 0, 1) := by decide +kernel
theorem dX9_up_1 : decode cX9_up 1 = .ok (.bipush 8, 2) := by decide +kernel
theorem dX9_up_3 : decode cX9_up 3 = .ok (.if_icmp .ne 7, 3) := by decide +kernel
theorem dX9_up_6 : decode cX9_up 6 = .ok (.iconst 1, 1) := by decide +kernel
theorem dX9_up_7 : decode cX9_up 7 = .ok (.goto 14, 3) := by decide +kernel
theorem dX9_up_10 : decode cX9_up 10 = .ok (.iload_n 0, 1) := by decide +kernel
theorem dX9_up_11 : decode cX9_up 11 = .ok (.bipush 9, 2) := by decide +kernel
theorem dX9_up_13 : decode cX9_up 13 = .ok (.if_icmp .ne 7, 3) := by decide +kernel
theorem dX9_up_16 : decode cX9_up 16 = .ok (.iconst (-1), 1) := by decide +kernel
theorem dX9_up_17 : decode cX9_up 17 = .ok (.goto 4, 3) := by decide +kernel
theorem dX9_up_20 : decode cX9_up 20 = .ok (.iconst 0, 1) := by decide +kernel
theorem dX9_up_21 : decode cX9_up 21 = .ok (.ireturn, 1) := by decide +kernel
theorem dX9_room_0 : decode cX9_room 0 = .ok (.iload_n 1, 1) := by decide +kernel
theorem dX9_room_1 : decode cX9_room 1 = .ok (.iconst 1, 1) := by decide +kernel
theorem dX9_room_2 : decode cX9_room 2 = .ok (.iconst 5, 1) := by decide +kernel
theorem dX9_room_3 : decode cX9_room 3 = .ok (.invokestatic 90, 3) := by decide +kernel
theorem dX9_room_6 : decode cX9_room 6 = .ok (.ifCond .eq 13, 3) := by decide +kernel
theorem dX9_room_9 : decode cX9_room 9 = .ok (.iload_n 2, 1) := by decide +kernel
theorem dX9_room_10 : decode cX9_room 10 = .ok (.iconst 0, 1) := by decide +kernel
theorem dX9_room_11 : decode cX9_room 11 = .ok (.bipush 9, 2) := by decide +kernel
theorem dX9_room_13 : decode cX9_room 13 = .ok (.invokestatic 90, 3) := by decide +kernel
theorem dX9_room_16 : decode cX9_room 16 = .ok (.ifCond .ne 5, 3) := by decide +kernel
theorem dX9_room_19 : decode cX9_room 19 = .ok (.iconst (-1), 1) := by decide +kernel
theorem dX9_room_20 : decode cX9_room 20 = .ok (.ireturn, 1) := by decide +kernel
theorem dX9_room_21 : decode cX9_room 21 = .ok (.aload_n 0, 1) := by decide +kernel
theorem dX9_room_22 : decode cX9_room 22 = .ok (.getfield 86, 3) := by decide +kernel
theorem dX9_room_25 : decode cX9_room 25 = .ok (.bipush 24, 2) := by decide +kernel
theorem dX9_room_27 : decode cX9_room 27 = .ok (.if_icmp .ne 6, 3) := by decide +kernel
theorem dX9_room_30 : decode cX9_room 30 = .ok (.bipush (-4), 2) := by decide +kernel
theorem dX9_room_32 : decode cX9_room 32 = .ok (.ireturn, 1) := by decide +kernel
theorem dX9_room_33 : decode cX9_room 33 = .ok (.aload_n 0, 1) := by decide +kernel
theorem dX9_room_34 : decode cX9_room 34 = .ok (.getfield 7, 3) := by decide +kernel
theorem dX9_room_37 : decode cX9_room 37 = .ok (.aload_n 0, 1) := by decide +kernel
theorem dX9_room_38 : decode cX9_room 38 = .ok (.getfield 86, 3) := by decide +kernel
theorem dX9_room_41 : decode cX9_room 41 = .ok (.iload_n 1, 1) := by decide +kernel
theorem dX9_room_42 : decode cX9_room 42 = .ok (.iastore, 1) := by decide +kernel
theorem dX9_room_43 : decode cX9_room 43 = .ok (.aload_n 0, 1) := by decide +kernel
theorem dX9_room_44 : decode cX9_room 44 = .ok (.getfield 13, 3) := by decide +kernel
theorem dX9_room_47 : decode cX9_room 47 = .ok (.aload_n 0, 1) := by decide +kernel
theorem dX9_room_48 : decode cX9_room 48 = .ok (.getfield 86, 3) := by decide +kernel
theorem dX9_room_51 : decode cX9_room 51 = .ok (.iload_n 2, 1) := by decide +kernel
theorem dX9_room_52 : decode cX9_room 52 = .ok (.iastore, 1) := by decide +kernel
theorem dX9_room_53 : decode cX9_room 53 = .ok (.aload_n 0, 1) := by decide +kernel
theorem dX9_room_54 : decode cX9_room 54 = .ok (.getfield 16, 3) := by decide +kernel
theorem dX9_room_57 : decode cX9_room 57 = .ok (.aload_n 0, 1) := by decide +kernel
theorem dX9_room_58 : decode cX9_room 58 = .ok (.getfield 86, 3) := by decide +kernel
theorem dX9_room_61 : decode cX9_room 61 = .ok (.bipush (-2), 2) := by decide +kernel
theorem dX9_room_63 : decode cX9_room 63 = .ok (.iastore, 1) := by decide +kernel
theorem dX9_room_64 : decode cX9_room 64 = .ok (.aload_n 0, 1) := by decide +kernel
theorem dX9_room_65 : decode cX9_room 65 = .ok (.getfield 32, 3) := by decide +kernel
theorem dX9_room_68 : decode cX9_room 68 = .ok (.aload_n 0, 1) := by decide +kernel
theorem dX9_room_69 : decode cX9_room 69 = .ok (.getfield 86, 3) := by decide +kernel
theorem dX9_room_72 : decode cX9_room 72 = .ok (.iconst 0, 1) := by decide +kernel
theorem dX9_room_73 : decode cX9_room 73 = .ok (.bastore, 1) := by decide +kernel
theorem dX9_room_74 : decode cX9_room 74 = .ok (.aload_n 0, 1) := by decide +kernel
theorem dX9_room_75 : decode cX9_room 75 = .ok (.dup, 1) := by decide +kernel
theorem dX9_room_76 : decode cX9_room 76 = .ok (.getfield 86, 3) := by decide +kernel
theorem dX9_room_79 : decode cX9_room 79 = .ok (.iconst 1, 1) := by decide +kernel
theorem dX9_room_80 : decode cX9_room 80 = .ok (.iadd, 1) := by decide +kernel
theorem dX9_room_81 : decode cX9_room 81 = .ok (.putfield 86, 3) := by decide +kernel
theorem dX9_room_84 : decode cX9_room 84 = .ok (.aload_n 0, 1) := by decide +kernel
theorem dX9_room_85 : decode cX9_room 85 = .ok (.getfield 86, 3) := by decide +kernel
theorem dX9_room_88 : decode cX9_room 88 = .ok (.iconst 1, 1) := by decide +kernel
theorem dX9_room_89 : decode cX9_room 89 = .ok (.isub, 1) := by decide +kernel
theorem dX9_room_90 : decode cX9_room 90 = .ok (.ireturn, 1) := by decide +kernel
theorem dX9_outOf_0 : decode cX9_outOf 0 = .ok (.iconst 0, 1) := by decide +kernel
theorem dX9_outOf_1 : decode cX9_outOf 1 = .ok (.istore_n 3, 1) := by decide +kernel
theorem dX9_outOf_2 : decode cX9_outOf 2 = .ok (.iload_n 3, 1) := by decide +kernel
theorem dX9_outOf_3 : decode cX9_outOf 3 = .ok (.aload_n 0, 1) := by decide +kernel
theorem dX9_outOf_4 : decode cX9_outOf 4 = .ok (.getfield 94, 3) := by decide +kernel
theorem dX9_outOf_7 : decode cX9_outOf 7 = .ok (.if_icmp .ge 63, 3) := by decide +kernel
theorem dX9_outOf_10 : decode cX9_outOf 10 = .ok (.aload_n 0, 1) := by decide +kernel
theorem dX9_outOf_11 : decode cX9_outOf 11 = .ok (.getfield 19, 3) := by decide +kernel
theorem dX9_outOf_14 : decode cX9_outOf 14 = .ok (.iload_n 3, 1) := by decide +kernel
theorem dX9_outOf_15 : decode cX9_outOf 15 = .ok (.iaload, 1) := by decide +kernel
theorem dX9_outOf_16 : decode cX9_outOf 16 = .ok (.iload_n 1, 1) := by decide +kernel
theorem dX9_outOf_17 : decode cX9_outOf 17 = .ok (.if_icmp .ne 13, 3) := by decide +kernel
theorem dX9_outOf_20 : decode cX9_outOf 20 = .ok (.aload_n 0, 1) := by decide +kernel
theorem dX9_outOf_21 : decode cX9_outOf 21 = .ok (.getfield 22, 3) := by decide +kernel
theorem dX9_outOf_24 : decode cX9_outOf 24 = .ok (.iload_n 3, 1) := by decide +kernel
theorem dX9_outOf_25 : decode cX9_outOf 25 = .ok (.iaload, 1) := by decide +kernel
theorem dX9_outOf_26 : decode cX9_outOf 26 = .ok (.iload_n 2, 1) := by decide +kernel
theorem dX9_outOf_27 : decode cX9_outOf 27 = .ok (.if_icmp .eq 35, 3) := by decide +kernel
theorem dX9_outOf_30 : decode cX9_outOf 30 = .ok (.aload_n 0, 1) := by decide +kernel
theorem dX9_outOf_31 : decode cX9_outOf 31 = .ok (.getfield 28, 3) := by decide +kernel
theorem dX9_outOf_34 : decode cX9_outOf 34 = .ok (.iload_n 3, 1) := by decide +kernel
theorem dX9_outOf_35 : decode cX9_outOf 35 = .ok (.baload, 1) := by decide +kernel
theorem dX9_outOf_36 : decode cX9_outOf 36 = .ok (.ifCond .eq 28, 3) := by decide +kernel
theorem dX9_outOf_39 : decode cX9_outOf 39 = .ok (.aload_n 0, 1) := by decide +kernel
theorem dX9_outOf_40 : decode cX9_outOf 40 = .ok (.getfield 25, 3) := by decide +kernel
theorem dX9_outOf_43 : decode cX9_outOf 43 = .ok (.iload_n 3, 1) := by decide +kernel
theorem dX9_outOf_44 : decode cX9_outOf 44 = .ok (.iaload, 1) := by decide +kernel
theorem dX9_outOf_45 : decode cX9_outOf 45 = .ok (.iload_n 1, 1) := by decide +kernel
theorem dX9_outOf_46 : decode cX9_outOf 46 = .ok (.if_icmp .ne 18, 3) := by decide +kernel
theorem dX9_outOf_49 : decode cX9_outOf 49 = .ok (.aload_n 0, 1) := by decide +kernel
theorem dX9_outOf_50 : decode cX9_outOf 50 = .ok (.getfield 22, 3) := by decide +kernel
theorem dX9_outOf_53 : decode cX9_outOf 53 = .ok (.iload_n 3, 1) := by decide +kernel
theorem dX9_outOf_54 : decode cX9_outOf 54 = .ok (.iaload, 1) := by decide +kernel
theorem dX9_outOf_55 : decode cX9_outOf 55 = .ok (.invokestatic 97, 3) := by decide +kernel
theorem dX9_outOf_58 : decode cX9_outOf 58 = .ok (.iload_n 2, 1) := by decide +kernel
theorem dX9_outOf_59 : decode cX9_outOf 59 = .ok (.if_icmp .ne 5, 3) := by decide +kernel
theorem dX9_outOf_62 : decode cX9_outOf 62 = .ok (.iload_n 3, 1) := by decide +kernel
theorem dX9_outOf_63 : decode cX9_outOf 63 = .ok (.ireturn, 1) := by decide +kernel
theorem dX9_outOf_64 : decode cX9_outOf 64 = .ok (.iinc 3 1, 3) := by decide +kernel
theorem dX9_outOf_67 : decode cX9_outOf 67 = .ok (.goto (-65), 3) := by decide +kernel
theorem dX9_outOf_70 : decode cX9_outOf 70 = .ok (.bipush (-2), 2) := by decide +kernel
theorem dX9_outOf_72 : decode cX9_outOf 72 = .ok (.ireturn, 1) := by decide +kernel
theorem dX9_endOf_0 : decode cX9_endOf 0 = .ok (.aload_n 0, 1) := by decide +kernel
theorem dX9_endOf_1 : decode cX9_endOf 1 = .ok (.getfield 19, 3) := by decide +kernel
theorem dX9_endOf_4 : decode cX9_endOf 4 = .ok (.iload_n 1, 1) := by decide +kernel
theorem dX9_endOf_5 : decode cX9_endOf 5 = .ok (.iaload, 1) := by decide +kernel
theorem dX9_endOf_6 : decode cX9_endOf 6 = .ok (.iload_n 2, 1) := by decide +kernel
theorem dX9_endOf_7 : decode cX9_endOf 7 = .ok (.if_icmp .ne 22, 3) := by decide +kernel
theorem dX9_endOf_10 : decode cX9_endOf 10 = .ok (.aload_n 0, 1) := by decide +kernel
theorem dX9_endOf_11 : decode cX9_endOf 11 = .ok (.getfield 22, 3) := by decide +kernel
theorem dX9_endOf_14 : decode cX9_endOf 14 = .ok (.iload_n 1, 1) := by decide +kernel
theorem dX9_endOf_15 : decode cX9_endOf 15 = .ok (.iaload, 1) := by decide +kernel
theorem dX9_endOf_16 : decode cX9_endOf 16 = .ok (.iload_n 3, 1) := by decide +kernel
theorem dX9_endOf_17 : decode cX9_endOf 17 = .ok (.if_icmp .ne 12, 3) := by decide +kernel
theorem dX9_endOf_20 : decode cX9_endOf 20 = .ok (.aload_n 0, 1) := by decide +kernel
theorem dX9_endOf_21 : decode cX9_endOf 21 = .ok (.getfield 25, 3) := by decide +kernel
theorem dX9_endOf_24 : decode cX9_endOf 24 = .ok (.iload_n 1, 1) := by decide +kernel
theorem dX9_endOf_25 : decode cX9_endOf 25 = .ok (.iaload, 1) := by decide +kernel
theorem dX9_endOf_26 : decode cX9_endOf 26 = .ok (.goto 9, 3) := by decide +kernel
theorem dX9_endOf_29 : decode cX9_endOf 29 = .ok (.aload_n 0, 1) := by decide +kernel
theorem dX9_endOf_30 : decode cX9_endOf 30 = .ok (.getfield 19, 3) := by decide +kernel
theorem dX9_endOf_33 : decode cX9_endOf 33 = .ok (.iload_n 1, 1) := by decide +kernel
theorem dX9_endOf_34 : decode cX9_endOf 34 = .ok (.iaload, 1) := by decide +kernel
theorem dX9_endOf_35 : decode cX9_endOf 35 = .ok (.ireturn, 1) := by decide +kernel
theorem dX9_lay_0 : decode cX9_lay 0 = .ok (.aload_n 0, 1) := by decide +kernel
theorem dX9_lay_1 : decode cX9_lay 1 = .ok (.getfield 19, 3) := by decide +kernel
theorem dX9_lay_4 : decode cX9_lay 4 = .ok (.aload_n 0, 1) := by decide +kernel
theorem dX9_lay_5 : decode cX9_lay 5 = .ok (.getfield 94, 3) := by decide +kernel
theorem dX9_lay_8 : decode cX9_lay 8 = .ok (.iload_n 1, 1) := by decide +kernel
theorem dX9_lay_9 : decode cX9_lay 9 = .ok (.iastore, 1) := by decide +kernel
theorem dX9_lay_10 : decode cX9_lay 10 = .ok (.aload_n 0, 1) := by decide +kernel
theorem dX9_lay_11 : decode cX9_lay 11 = .ok (.getfield 22, 3) := by decide +kernel
theorem dX9_lay_14 : decode cX9_lay 14 = .ok (.aload_n 0, 1) := by decide +kernel
theorem dX9_lay_15 : decode cX9_lay 15 = .ok (.getfield 94, 3) := by decide +kernel
theorem dX9_lay_18 : decode cX9_lay 18 = .ok (.iload_n 2, 1) := by decide +kernel
theorem dX9_lay_19 : decode cX9_lay 19 = .ok (.iastore, 1) := by decide +kernel
theorem dX9_lay_20 : decode cX9_lay 20 = .ok (.aload_n 0, 1) := by decide +kernel
theorem dX9_lay_21 : decode cX9_lay 21 = .ok (.getfield 25, 3) := by decide +kernel
theorem dX9_lay_24 : decode cX9_lay 24 = .ok (.aload_n 0, 1) := by decide +kernel
theorem dX9_lay_25 : decode cX9_lay 25 = .ok (.getfield 94, 3) := by decide +kernel
theorem dX9_lay_28 : decode cX9_lay 28 = .ok (.iload_n 3, 1) := by decide +kernel
theorem dX9_lay_29 : decode cX9_lay 29 = .ok (.iastore, 1) := by decide +kernel
theorem dX9_lay_30 : decode cX9_lay 30 = .ok (.aload_n 0, 1) := by decide +kernel
theorem dX9_lay_31 : decode cX9_lay 31 = .ok (.getfield 28, 3) := by decide +kernel
theorem dX9_lay_34 : decode cX9_lay 34 = .ok (.aload_n 0, 1) := by decide +kernel
theorem dX9_lay_35 : decode cX9_lay 35 = .ok (.getfield 94, 3) := by decide +kernel
theorem dX9_lay_38 : decode cX9_lay 38 = .ok (.iload 4, 2) := by decide +kernel
theorem dX9_lay_40 : decode cX9_lay 40 = .ok (.bastore, 1) := by decide +kernel
theorem dX9_lay_41 : decode cX9_lay 41 = .ok (.aload_n 0, 1) := by decide +kernel
theorem dX9_lay_42 : decode cX9_lay 42 = .ok (.dup, 1) := by decide +kernel
theorem dX9_lay_43 : decode cX9_lay 43 = .ok (.getfield 94, 3) := by decide +kernel
theorem dX9_lay_46 : decode cX9_lay 46 = .ok (.iconst 1, 1) := by decide +kernel
theorem dX9_lay_47 : decode cX9_lay 47 = .ok (.iadd, 1) := by decide +kernel
theorem dX9_lay_48 : decode cX9_lay 48 = .ok (.putfield 94, 3) := by decide +kernel
theorem dX9_lay_51 : decode cX9_lay 51 = .ok (.aload_n 0, 1) := by decide +kernel
theorem dX9_lay_52 : decode cX9_lay 52 = .ok (.getfield 94, 3) := by decide +kernel
theorem dX9_lay_55 : decode cX9_lay 55 = .ok (.iconst 1, 1) := by decide +kernel
theorem dX9_lay_56 : decode cX9_lay 56 = .ok (.isub, 1) := by decide +kernel
theorem dX9_lay_57 : decode cX9_lay 57 = .ok (.ireturn, 1) := by decide +kernel
theorem dX9_exit_0 : decode cX9_exit 0 = .ok (.aload_n 0, 1) := by decide +kernel
theorem dX9_exit_1 : decode cX9_exit 1 = .ok (.iload_n 1, 1) := by decide +kernel
theorem dX9_exit_2 : decode cX9_exit 2 = .ok (.invokevirtual 101, 3) := by decide +kernel
theorem dX9_exit_5 : decode cX9_exit 5 = .ok (.ifCond .eq 21, 3) := by decide +kernel
theorem dX9_exit_8 : decode cX9_exit 8 = .ok (.iload_n 2, 1) := by decide +kernel
theorem dX9_exit_9 : decode cX9_exit 9 = .ok (.iconst 0, 1) := by decide +kernel
theorem dX9_exit_10 : decode cX9_exit 10 = .ok (.bipush 9, 2) := by decide +kernel
theorem dX9_exit_12 : decode cX9_exit 12 = .ok (.invokestatic 90, 3) := by decide +kernel
theorem dX9_exit_15 : decode cX9_exit 15 = .ok (.ifCond .eq 11, 3) := by decide +kernel
theorem dX9_exit_18 : decode cX9_exit 18 = .ok (.aload_n 0, 1) := by decide +kernel
theorem dX9_exit_19 : decode cX9_exit 19 = .ok (.iload_n 3, 1) := by decide +kernel
theorem dX9_exit_20 : decode cX9_exit 20 = .ok (.invokevirtual 101, 3) := by decide +kernel
theorem dX9_exit_23 : decode cX9_exit 23 = .ok (.ifCond .ne 5, 3) := by decide +kernel
theorem dX9_exit_26 : decode cX9_exit 26 = .ok (.iconst (-1), 1) := by decide +kernel
theorem dX9_exit_27 : decode cX9_exit 27 = .ok (.ireturn, 1) := by decide +kernel
theorem dX9_exit_28 : decode cX9_exit 28 = .ok (.aload_n 0, 1) := by decide +kernel
theorem dX9_exit_29 : decode cX9_exit 29 = .ok (.iload_n 1, 1) := by decide +kernel
theorem dX9_exit_30 : decode cX9_exit 30 = .ok (.iload_n 2, 1) := by decide +kernel
theorem dX9_exit_31 : decode cX9_exit 31 = .ok (.invokevirtual 105, 3) := by decide +kernel
theorem dX9_exit_34 : decode cX9_exit 34 = .ok (.ifCond .ge 20, 3) := by decide +kernel
theorem dX9_exit_37 : decode cX9_exit 37 = .ok (.iload 4, 2) := by decide +kernel
theorem dX9_exit_39 : decode cX9_exit 39 = .ok (.ifCond .eq 18, 3) := by decide +kernel
theorem dX9_exit_42 : decode cX9_exit 42 = .ok (.aload_n 0, 1) := by decide +kernel
theorem dX9_exit_43 : decode cX9_exit 43 = .ok (.iload_n 3, 1) := by decide +kernel
theorem dX9_exit_44 : decode cX9_exit 44 = .ok (.iload_n 2, 1) := by decide +kernel
theorem dX9_exit_45 : decode cX9_exit 45 = .ok (.invokestatic 97, 3) := by decide +kernel
theorem dX9_exit_48 : decode cX9_exit 48 = .ok (.invokevirtual 105, 3) := by decide +kernel
theorem dX9_exit_51 : decode cX9_exit 51 = .ok (.ifCond .lt 6, 3) := by decide +kernel
theorem dX9_exit_54 : decode cX9_exit 54 = .ok (.bipush (-3), 2) := by decide +kernel
theorem dX9_exit_56 : decode cX9_exit 56 = .ok (.ireturn, 1) := by decide +kernel
theorem dX9_exit_57 : decode cX9_exit 57 = .ok (.aload_n 0, 1) := by decide +kernel
theorem dX9_exit_58 : decode cX9_exit 58 = .ok (.getfield 94, 3) := by decide +kernel
theorem dX9_exit_61 : decode cX9_exit 61 = .ok (.bipush 60, 2) := by decide +kernel
theorem dX9_exit_63 : decode cX9_exit 63 = .ok (.if_icmp .ne 8, 3) := by decide +kernel
theorem dX9_exit_66 : decode cX9_exit 66 = .ok (.bipush (-4), 2) := by decide +kernel
theorem dX9_exit_68 : decode cX9_exit 68 = .ok (.goto 12, 3) := by decide +kernel
theorem dX9_exit_71 : decode cX9_exit 71 = .ok (.aload_n 0, 1) := by decide +kernel
theorem dX9_exit_72 : decode cX9_exit 72 = .ok (.iload_n 1, 1) := by decide +kernel
theorem dX9_exit_73 : decode cX9_exit 73 = .ok (.iload_n 2, 1) := by decide +kernel
theorem dX9_exit_74 : decode cX9_exit 74 = .ok (.iload_n 3, 1) := by decide +kernel
theorem dX9_exit_75 : decode cX9_exit 75 = .ok (.iload 4, 2) := by decide +kernel
theorem dX9_exit_77 : decode cX9_exit 77 = .ok (.invokevirtual 109, 3) := by decide +kernel
theorem dX9_exit_80 : decode cX9_exit 80 = .ok (.ireturn, 1) := by decide +kernel
theorem dX9_isLink_0 : decode cX9_isLink 0 = .ok (.iload_n 1, 1) := by decide +kernel
theorem dX9_isLink_1 : decode cX9_isLink 1 = .ok (.iconst 0, 1) := by decide +kernel
theorem dX9_isLink_2 : decode cX9_isLink 2 = .ok (.aload_n 0, 1) := by decide +kernel
theorem dX9_isLink_3 : decode cX9_isLink 3 = .ok (.getfield 94, 3) := by decide +kernel
theorem dX9_isLink_6 : decode cX9_isLink 6 = .ok (.iconst 1, 1) := by decide +kernel
theorem dX9_isLink_7 : decode cX9_isLink 7 = .ok (.isub, 1) := by decide +kernel
theorem dX9_isLink_8 : decode cX9_isLink 8 = .ok (.invokestatic 90, 3) := by decide +kernel
theorem dX9_isLink_11 : decode cX9_isLink 11 = .ok (.ireturn, 1) := by decide +kernel
theorem dX9_cut_0 : decode cX9_cut 0 = .ok (.aload_n 0, 1) := by decide +kernel
theorem dX9_cut_1 : decode cX9_cut 1 = .ok (.iload_n 1, 1) := by decide +kernel
theorem dX9_cut_2 : decode cX9_cut 2 = .ok (.invokevirtual 113, 3) := by decide +kernel
theorem dX9_cut_5 : decode cX9_cut 5 = .ok (.ifCond .ne 5, 3) := by decide +kernel
theorem dX9_cut_8 : decode cX9_cut 8 = .ok (.iconst (-1), 1) := by decide +kernel
theorem dX9_cut_9 : decode cX9_cut 9 = .ok (.ireturn, 1) := by decide +kernel
theorem dX9_cut_10 : decode cX9_cut 10 = .ok (.aload_n 0, 1) := by decide +kernel
theorem dX9_cut_11 : decode cX9_cut 11 = .ok (.dup, 1) := by decide +kernel
theorem dX9_cut_12 : decode cX9_cut 12 = .ok (.getfield 94, 3) := by decide +kernel
theorem dX9_cut_15 : decode cX9_cut 15 = .ok (.iconst 1, 1) := by decide +kernel
theorem dX9_cut_16 : decode cX9_cut 16 = .ok (.isub, 1) := by decide +kernel
theorem dX9_cut_17 : decode cX9_cut 17 = .ok (.putfield 94, 3) := by decide +kernel
theorem dX9_cut_20 : decode cX9_cut 20 = .ok (.iload_n 1, 1) := by decide +kernel
theorem dX9_cut_21 : decode cX9_cut 21 = .ok (.istore_n 2, 1) := by decide +kernel
theorem dX9_cut_22 : decode cX9_cut 22 = .ok (.iload_n 2, 1) := by decide +kernel
theorem dX9_cut_23 : decode cX9_cut 23 = .ok (.aload_n 0, 1) := by decide +kernel
theorem dX9_cut_24 : decode cX9_cut 24 = .ok (.getfield 94, 3) := by decide +kernel
theorem dX9_cut_27 : decode cX9_cut 27 = .ok (.if_icmp .ge 65, 3) := by decide +kernel
theorem dX9_cut_30 : decode cX9_cut 30 = .ok (.aload_n 0, 1) := by decide +kernel
theorem dX9_cut_31 : decode cX9_cut 31 = .ok (.getfield 19, 3) := by decide +kernel
theorem dX9_cut_34 : decode cX9_cut 34 = .ok (.iload_n 2, 1) := by decide +kernel
theorem dX9_cut_35 : decode cX9_cut 35 = .ok (.aload_n 0, 1) := by decide +kernel
theorem dX9_cut_36 : decode cX9_cut 36 = .ok (.getfield 19, 3) := by decide +kernel
theorem dX9_cut_39 : decode cX9_cut 39 = .ok (.iload_n 2, 1) := by decide +kernel
theorem dX9_cut_40 : decode cX9_cut 40 = .ok (.iconst 1, 1) := by decide +kernel
theorem dX9_cut_41 : decode cX9_cut 41 = .ok (.iadd, 1) := by decide +kernel
theorem dX9_cut_42 : decode cX9_cut 42 = .ok (.iaload, 1) := by decide +kernel
theorem dX9_cut_43 : decode cX9_cut 43 = .ok (.iastore, 1) := by decide +kernel
theorem dX9_cut_44 : decode cX9_cut 44 = .ok (.aload_n 0, 1) := by decide +kernel
theorem dX9_cut_45 : decode cX9_cut 45 = .ok (.getfield 22, 3) := by decide +kernel
theorem dX9_cut_48 : decode cX9_cut 48 = .ok (.iload_n 2, 1) := by decide +kernel
theorem dX9_cut_49 : decode cX9_cut 49 = .ok (.aload_n 0, 1) := by decide +kernel
theorem dX9_cut_50 : decode cX9_cut 50 = .ok (.getfield 22, 3) := by decide +kernel
theorem dX9_cut_53 : decode cX9_cut 53 = .ok (.iload_n 2, 1) := by decide +kernel
theorem dX9_cut_54 : decode cX9_cut 54 = .ok (.iconst 1, 1) := by decide +kernel
theorem dX9_cut_55 : decode cX9_cut 55 = .ok (.iadd, 1) := by decide +kernel
theorem dX9_cut_56 : decode cX9_cut 56 = .ok (.iaload, 1) := by decide +kernel
theorem dX9_cut_57 : decode cX9_cut 57 = .ok (.iastore, 1) := by decide +kernel
theorem dX9_cut_58 : decode cX9_cut 58 = .ok (.aload_n 0, 1) := by decide +kernel
theorem dX9_cut_59 : decode cX9_cut 59 = .ok (.getfield 25, 3) := by decide +kernel
theorem dX9_cut_62 : decode cX9_cut 62 = .ok (.iload_n 2, 1) := by decide +kernel
theorem dX9_cut_63 : decode cX9_cut 63 = .ok (.aload_n 0, 1) := by decide +kernel
theorem dX9_cut_64 : decode cX9_cut 64 = .ok (.getfield 25, 3) := by decide +kernel
theorem dX9_cut_67 : decode cX9_cut 67 = .ok (.iload_n 2, 1) := by decide +kernel
theorem dX9_cut_68 : decode cX9_cut 68 = .ok (.iconst 1, 1) := by decide +kernel
theorem dX9_cut_69 : decode cX9_cut 69 = .ok (.iadd, 1) := by decide +kernel
theorem dX9_cut_70 : decode cX9_cut 70 = .ok (.iaload, 1) := by decide +kernel
theorem dX9_cut_71 : decode cX9_cut 71 = .ok (.iastore, 1) := by decide +kernel
theorem dX9_cut_72 : decode cX9_cut 72 = .ok (.aload_n 0, 1) := by decide +kernel
theorem dX9_cut_73 : decode cX9_cut 73 = .ok (.getfield 28, 3) := by decide +kernel
theorem dX9_cut_76 : decode cX9_cut 76 = .ok (.iload_n 2, 1) := by decide +kernel
theorem dX9_cut_77 : decode cX9_cut 77 = .ok (.aload_n 0, 1) := by decide +kernel
theorem dX9_cut_78 : decode cX9_cut 78 = .ok (.getfield 28, 3) := by decide +kernel
theorem dX9_cut_81 : decode cX9_cut 81 = .ok (.iload_n 2, 1) := by decide +kernel
theorem dX9_cut_82 : decode cX9_cut 82 = .ok (.iconst 1, 1) := by decide +kernel
theorem dX9_cut_83 : decode cX9_cut 83 = .ok (.iadd, 1) := by decide +kernel
theorem dX9_cut_84 : decode cX9_cut 84 = .ok (.baload, 1) := by decide +kernel
theorem dX9_cut_85 : decode cX9_cut 85 = .ok (.bastore, 1) := by decide +kernel
theorem dX9_cut_86 : decode cX9_cut 86 = .ok (.iinc 2 1, 3) := by decide +kernel
theorem dX9_cut_89 : decode cX9_cut 89 = .ok (.goto (-67), 3) := by decide +kernel
theorem dX9_cut_92 : decode cX9_cut 92 = .ok (.aload_n 0, 1) := by decide +kernel
theorem dX9_cut_93 : decode cX9_cut 93 = .ok (.getfield 94, 3) := by decide +kernel
theorem dX9_cut_96 : decode cX9_cut 96 = .ok (.ireturn, 1) := by decide +kernel
theorem dX9_play_0 : decode cX9_play 0 = .ok (.aload_n 0, 1) := by decide +kernel
theorem dX9_play_1 : decode cX9_play 1 = .ok (.iload_n 1, 1) := by decide +kernel
theorem dX9_play_2 : decode cX9_play 2 = .ok (.invokevirtual 101, 3) := by decide +kernel
theorem dX9_play_5 : decode cX9_play 5 = .ok (.ifCond .eq 27, 3) := by decide +kernel
theorem dX9_play_8 : decode cX9_play 8 = .ok (.iload_n 2, 1) := by decide +kernel
theorem dX9_play_9 : decode cX9_play 9 = .ok (.iconst 0, 1) := by decide +kernel
theorem dX9_play_10 : decode cX9_play 10 = .ok (.bipush 9, 2) := by decide +kernel
theorem dX9_play_12 : decode cX9_play 12 = .ok (.invokestatic 90, 3) := by decide +kernel
theorem dX9_play_15 : decode cX9_play 15 = .ok (.ifCond .eq 17, 3) := by decide +kernel
theorem dX9_play_18 : decode cX9_play 18 = .ok (.iload_n 3, 1) := by decide +kernel
theorem dX9_play_19 : decode cX9_play 19 = .ok (.bipush (-2), 2) := by decide +kernel
theorem dX9_play_21 : decode cX9_play 21 = .ok (.if_icmp .eq 13, 3) := by decide +kernel
theorem dX9_play_24 : decode cX9_play 24 = .ok (.aload_n 0, 1) := by decide +kernel
theorem dX9_play_25 : decode cX9_play 25 = .ok (.iload_n 3, 1) := by decide +kernel
theorem dX9_play_26 : decode cX9_play 26 = .ok (.invokevirtual 101, 3) := by decide +kernel
theorem dX9_play_29 : decode cX9_play 29 = .ok (.ifCond .ne 5, 3) := by decide +kernel
theorem dX9_play_32 : decode cX9_play 32 = .ok (.iconst (-1), 1) := by decide +kernel
theorem dX9_play_33 : decode cX9_play 33 = .ok (.ireturn, 1) := by decide +kernel
theorem dX9_play_34 : decode cX9_play 34 = .ok (.aload_n 0, 1) := by decide +kernel
theorem dX9_play_35 : decode cX9_play 35 = .ok (.iload_n 1, 1) := by decide +kernel
theorem dX9_play_36 : decode cX9_play 36 = .ok (.iload_n 2, 1) := by decide +kernel
theorem dX9_play_37 : decode cX9_play 37 = .ok (.invokevirtual 105, 3) := by decide +kernel
theorem dX9_play_40 : decode cX9_play 40 = .ok (.istore 4, 2) := by decide +kernel
theorem dX9_play_42 : decode cX9_play 42 = .ok (.iload 4, 2) := by decide +kernel
theorem dX9_play_44 : decode cX9_play 44 = .ok (.ifCond .lt 28, 3) := by decide +kernel
theorem dX9_play_47 : decode cX9_play 47 = .ok (.iload_n 3, 1) := by decide +kernel
theorem dX9_play_48 : decode cX9_play 48 = .ok (.bipush (-2), 2) := by decide +kernel
theorem dX9_play_50 : decode cX9_play 50 = .ok (.if_icmp .eq 15, 3) := by decide +kernel
theorem dX9_play_53 : decode cX9_play 53 = .ok (.aload_n 0, 1) := by decide +kernel
theorem dX9_play_54 : decode cX9_play 54 = .ok (.iload 4, 2) := by decide +kernel
theorem dX9_play_56 : decode cX9_play 56 = .ok (.iload_n 1, 1) := by decide +kernel
theorem dX9_play_57 : decode cX9_play 57 = .ok (.iload_n 2, 1) := by decide +kernel
theorem dX9_play_58 : decode cX9_play 58 = .ok (.invokevirtual 116, 3) := by decide +kernel
theorem dX9_play_61 : decode cX9_play 61 = .ok (.iload_n 3, 1) := by decide +kernel
theorem dX9_play_62 : decode cX9_play 62 = .ok (.if_icmp .eq 8, 3) := by decide +kernel
theorem dX9_play_65 : decode cX9_play 65 = .ok (.bipush (-3), 2) := by decide +kernel
theorem dX9_play_67 : decode cX9_play 67 = .ok (.goto 4, 3) := by decide +kernel
theorem dX9_play_70 : decode cX9_play 70 = .ok (.iload_n 3, 1) := by decide +kernel
theorem dX9_play_71 : decode cX9_play 71 = .ok (.ireturn, 1) := by decide +kernel
theorem dX9_play_72 : decode cX9_play 72 = .ok (.iload_n 3, 1) := by decide +kernel
theorem dX9_play_73 : decode cX9_play 73 = .ok (.bipush (-2), 2) := by decide +kernel
theorem dX9_play_75 : decode cX9_play 75 = .ok (.if_icmp .ne 8, 3) := by decide +kernel
theorem dX9_play_78 : decode cX9_play 78 = .ok (.bipush (-2), 2) := by decide +kernel
theorem dX9_play_80 : decode cX9_play 80 = .ok (.goto 10, 3) := by decide +kernel
theorem dX9_play_83 : decode cX9_play 83 = .ok (.aload_n 0, 1) := by decide +kernel
theorem dX9_play_84 : decode cX9_play 84 = .ok (.iload_n 1, 1) := by decide +kernel
theorem dX9_play_85 : decode cX9_play 85 = .ok (.iload_n 2, 1) := by decide +kernel
theorem dX9_play_86 : decode cX9_play 86 = .ok (.iload_n 3, 1) := by decide +kernel
theorem dX9_play_87 : decode cX9_play 87 = .ok (.invokevirtual 120, 3) := by decide +kernel
theorem dX9_play_90 : decode cX9_play 90 = .ok (.istore 5, 2) := by decide +kernel
theorem dX9_play_92 : decode cX9_play 92 = .ok (.iload 5, 2) := by decide +kernel
theorem dX9_play_94 : decode cX9_play 94 = .ok (.ifCond .lt 13, 3) := by decide +kernel
theorem dX9_play_97 : decode cX9_play 97 = .ok (.aload_n 0, 1) := by decide +kernel
theorem dX9_play_98 : decode cX9_play 98 = .ok (.getfield 28, 3) := by decide +kernel
theorem dX9_play_101 : decode cX9_play 101 = .ok (.iload 5, 2) := by decide +kernel
theorem dX9_play_103 : decode cX9_play 103 = .ok (.iconst 1, 1) := by decide +kernel
theorem dX9_play_104 : decode cX9_play 104 = .ok (.bastore, 1) := by decide +kernel
theorem dX9_play_105 : decode cX9_play 105 = .ok (.iload_n 3, 1) := by decide +kernel
theorem dX9_play_106 : decode cX9_play 106 = .ok (.ireturn, 1) := by decide +kernel
theorem dX9_play_107 : decode cX9_play 107 = .ok (.iload_n 3, 1) := by decide +kernel
theorem dX9_play_108 : decode cX9_play 108 = .ok (.bipush (-2), 2) := by decide +kernel
theorem dX9_play_110 : decode cX9_play 110 = .ok (.if_icmp .ne 12, 3) := by decide +kernel
theorem dX9_play_113 : decode cX9_play 113 = .ok (.aload_n 0, 1) := by decide +kernel
theorem dX9_play_114 : decode cX9_play 114 = .ok (.getfield 86, 3) := by decide +kernel
theorem dX9_play_117 : decode cX9_play 117 = .ok (.bipush 24, 2) := by decide +kernel
theorem dX9_play_119 : decode cX9_play 119 = .ok (.if_icmp .eq 12, 3) := by decide +kernel
theorem dX9_play_122 : decode cX9_play 122 = .ok (.aload_n 0, 1) := by decide +kernel
theorem dX9_play_123 : decode cX9_play 123 = .ok (.getfield 94, 3) := by decide +kernel
theorem dX9_play_126 : decode cX9_play 126 = .ok (.bipush 60, 2) := by decide +kernel
theorem dX9_play_128 : decode cX9_play 128 = .ok (.if_icmp .ne 6, 3) := by decide +kernel
theorem dX9_play_131 : decode cX9_play 131 = .ok (.bipush (-4), 2) := by decide +kernel
theorem dX9_play_133 : decode cX9_play 133 = .ok (.ireturn, 1) := by decide +kernel
theorem dX9_play_134 : decode cX9_play 134 = .ok (.iload_n 3, 1) := by decide +kernel
theorem dX9_play_135 : decode cX9_play 135 = .ok (.bipush (-2), 2) := by decide +kernel
theorem dX9_play_137 : decode cX9_play 137 = .ok (.if_icmp .ne 17, 3) := by decide +kernel
theorem dX9_play_140 : decode cX9_play 140 = .ok (.aload_n 0, 1) := by decide +kernel
theorem dX9_play_141 : decode cX9_play 141 = .ok (.iconst 1, 1) := by decide +kernel
theorem dX9_play_142 : decode cX9_play 142 = .ok (.aload_n 0, 1) := by decide +kernel
theorem dX9_play_143 : decode cX9_play 143 = .ok (.getfield 13, 3) := by decide +kernel
theorem dX9_play_146 : decode cX9_play 146 = .ok (.iload_n 1, 1) := by decide +kernel
theorem dX9_play_147 : decode cX9_play 147 = .ok (.iaload, 1) := by decide +kernel
theorem dX9_play_148 : decode cX9_play 148 = .ok (.invokevirtual 123, 3) := by decide +kernel
theorem dX9_play_151 : decode cX9_play 151 = .ok (.goto 4, 3) := by decide +kernel
theorem dX9_play_154 : decode cX9_play 154 = .ok (.iload_n 3, 1) := by decide +kernel
theorem dX9_play_155 : decode cX9_play 155 = .ok (.istore 6, 2) := by decide +kernel
theorem dX9_play_157 : decode cX9_play 157 = .ok (.aload_n 0, 1) := by decide +kernel
theorem dX9_play_158 : decode cX9_play 158 = .ok (.iload_n 1, 1) := by decide +kernel
theorem dX9_play_159 : decode cX9_play 159 = .ok (.iload_n 2, 1) := by decide +kernel
theorem dX9_play_160 : decode cX9_play 160 = .ok (.iload 6, 2) := by decide +kernel
theorem dX9_play_162 : decode cX9_play 162 = .ok (.iconst 0, 1) := by decide +kernel
theorem dX9_play_163 : decode cX9_play 163 = .ok (.invokevirtual 109, 3) := by decide +kernel
theorem dX9_play_166 : decode cX9_play 166 = .ok (.istore 7, 2) := by decide +kernel
theorem dX9_play_168 : decode cX9_play 168 = .ok (.iload 6, 2) := by decide +kernel
theorem dX9_play_170 : decode cX9_play 170 = .ok (.ireturn, 1) := by decide +kernel
theorem dX9_backOf_0 : decode cX9_backOf 0 = .ok (.iconst 0, 1) := by decide +kernel
theorem dX9_backOf_1 : decode cX9_backOf 1 = .ok (.istore 4, 2) := by decide +kernel
theorem dX9_backOf_3 : decode cX9_backOf 3 = .ok (.iload 4, 2) := by decide +kernel
theorem dX9_backOf_5 : decode cX9_backOf 5 = .ok (.aload_n 0, 1) := by decide +kernel
theorem dX9_backOf_6 : decode cX9_backOf 6 = .ok (.getfield 94, 3) := by decide +kernel
theorem dX9_backOf_9 : decode cX9_backOf 9 = .ok (.if_icmp .ge 58, 3) := by decide +kernel
theorem dX9_backOf_12 : decode cX9_backOf 12 = .ok (.aload_n 0, 1) := by decide +kernel
theorem dX9_backOf_13 : decode cX9_backOf 13 = .ok (.getfield 28, 3) := by decide +kernel
theorem dX9_backOf_16 : decode cX9_backOf 16 = .ok (.iload 4, 2) := by decide +kernel
theorem dX9_backOf_18 : decode cX9_backOf 18 = .ok (.baload, 1) := by decide +kernel
theorem dX9_backOf_19 : decode cX9_backOf 19 = .ok (.ifCond .ne 42, 3) := by decide +kernel
theorem dX9_backOf_22 : decode cX9_backOf 22 = .ok (.aload_n 0, 1) := by decide +kernel
theorem dX9_backOf_23 : decode cX9_backOf 23 = .ok (.getfield 19, 3) := by decide +kernel
theorem dX9_backOf_26 : decode cX9_backOf 26 = .ok (.iload 4, 2) := by decide +kernel
theorem dX9_backOf_28 : decode cX9_backOf 28 = .ok (.iaload, 1) := by decide +kernel
theorem dX9_backOf_29 : decode cX9_backOf 29 = .ok (.iload_n 3, 1) := by decide +kernel
theorem dX9_backOf_30 : decode cX9_backOf 30 = .ok (.if_icmp .ne 31, 3) := by decide +kernel
theorem dX9_backOf_33 : decode cX9_backOf 33 = .ok (.aload_n 0, 1) := by decide +kernel
theorem dX9_backOf_34 : decode cX9_backOf 34 = .ok (.getfield 22, 3) := by decide +kernel
theorem dX9_backOf_37 : decode cX9_backOf 37 = .ok (.iload 4, 2) := by decide +kernel
theorem dX9_backOf_39 : decode cX9_backOf 39 = .ok (.iaload, 1) := by decide +kernel
theorem dX9_backOf_40 : decode cX9_backOf 40 = .ok (.iload_n 2, 1) := by decide +kernel
theorem dX9_backOf_41 : decode cX9_backOf 41 = .ok (.invokestatic 97, 3) := by decide +kernel
theorem dX9_backOf_44 : decode cX9_backOf 44 = .ok (.if_icmp .ne 17, 3) := by decide +kernel
theorem dX9_backOf_47 : decode cX9_backOf 47 = .ok (.aload_n 0, 1) := by decide +kernel
theorem dX9_backOf_48 : decode cX9_backOf 48 = .ok (.getfield 25, 3) := by decide +kernel
theorem dX9_backOf_51 : decode cX9_backOf 51 = .ok (.iload 4, 2) := by decide +kernel
theorem dX9_backOf_53 : decode cX9_backOf 53 = .ok (.iaload, 1) := by decide +kernel
theorem dX9_backOf_54 : decode cX9_backOf 54 = .ok (.iload_n 1, 1) := by decide +kernel
theorem dX9_backOf_55 : decode cX9_backOf 55 = .ok (.if_icmp .ne 6, 3) := by decide +kernel
theorem dX9_backOf_58 : decode cX9_backOf 58 = .ok (.iload 4, 2) := by decide +kernel
theorem dX9_backOf_60 : decode cX9_backOf 60 = .ok (.ireturn, 1) := by decide +kernel
theorem dX9_backOf_61 : decode cX9_backOf 61 = .ok (.iinc 4 1, 3) := by decide +kernel
theorem dX9_backOf_64 : decode cX9_backOf 64 = .ok (.goto (-61), 3) := by decide +kernel
theorem dX9_backOf_67 : decode cX9_backOf 67 = .ok (.bipush (-2), 2) := by decide +kernel
theorem dX9_backOf_69 : decode cX9_backOf 69 = .ok (.ireturn, 1) := by decide +kernel
theorem dX9_mark_0 : decode cX9_mark 0 = .ok (.aload_n 0, 1) := by decide +kernel
theorem dX9_mark_1 : decode cX9_mark 1 = .ok (.iload_n 1, 1) := by decide +kernel
theorem dX9_mark_2 : decode cX9_mark 2 = .ok (.invokevirtual 101, 3) := by decide +kernel
theorem dX9_mark_5 : decode cX9_mark 5 = .ok (.ifCond .eq 19, 3) := by decide +kernel
theorem dX9_mark_8 : decode cX9_mark 8 = .ok (.iload_n 2, 1) := by decide +kernel
theorem dX9_mark_9 : decode cX9_mark 9 = .ok (.bipush (-2), 2) := by decide +kernel
theorem dX9_mark_11 : decode cX9_mark 11 = .ok (.if_icmp .eq 15, 3) := by decide +kernel
theorem dX9_mark_14 : decode cX9_mark 14 = .ok (.iload_n 2, 1) := by decide +kernel
theorem dX9_mark_15 : decode cX9_mark 15 = .ok (.iconst 0, 1) := by decide +kernel
theorem dX9_mark_16 : decode cX9_mark 16 = .ok (.bipush 9, 2) := by decide +kernel
theorem dX9_mark_18 : decode cX9_mark 18 = .ok (.invokestatic 90, 3) := by decide +kernel
theorem dX9_mark_21 : decode cX9_mark 21 = .ok (.ifCond .ne 5, 3) := by decide +kernel
theorem dX9_mark_24 : decode cX9_mark 24 = .ok (.iconst (-1), 1) := by decide +kernel
theorem dX9_mark_25 : decode cX9_mark 25 = .ok (.ireturn, 1) := by decide +kernel
theorem dX9_mark_26 : decode cX9_mark 26 = .ok (.aload_n 0, 1) := by decide +kernel
theorem dX9_mark_27 : decode cX9_mark 27 = .ok (.getfield 16, 3) := by decide +kernel
theorem dX9_mark_30 : decode cX9_mark 30 = .ok (.iload_n 1, 1) := by decide +kernel
theorem dX9_mark_31 : decode cX9_mark 31 = .ok (.iaload, 1) := by decide +kernel
theorem dX9_mark_32 : decode cX9_mark 32 = .ok (.istore_n 3, 1) := by decide +kernel
theorem dX9_mark_33 : decode cX9_mark 33 = .ok (.aload_n 0, 1) := by decide +kernel
theorem dX9_mark_34 : decode cX9_mark 34 = .ok (.getfield 16, 3) := by decide +kernel
theorem dX9_mark_37 : decode cX9_mark 37 = .ok (.iload_n 1, 1) := by decide +kernel
theorem dX9_mark_38 : decode cX9_mark 38 = .ok (.iload_n 2, 1) := by decide +kernel
theorem dX9_mark_39 : decode cX9_mark 39 = .ok (.iastore, 1) := by decide +kernel
theorem dX9_mark_40 : decode cX9_mark 40 = .ok (.iload_n 3, 1) := by decide +kernel
theorem dX9_mark_41 : decode cX9_mark 41 = .ok (.ireturn, 1) := by decide +kernel
theorem dX9_alike_0 : decode cX9_alike 0 = .ok (.iload_n 1, 1) := by decide +kernel
theorem dX9_alike_1 : decode cX9_alike 1 = .ok (.iconst 0, 1) := by decide +kernel
theorem dX9_alike_2 : decode cX9_alike 2 = .ok (.bipush 9, 2) := by decide +kernel
theorem dX9_alike_4 : decode cX9_alike 4 = .ok (.invokestatic 90, 3) := by decide +kernel
theorem dX9_alike_7 : decode cX9_alike 7 = .ok (.ifCond .ne 5, 3) := by decide +kernel
theorem dX9_alike_10 : decode cX9_alike 10 = .ok (.iconst (-1), 1) := by decide +kernel
theorem dX9_alike_11 : decode cX9_alike 11 = .ok (.ireturn, 1) := by decide +kernel
theorem dX9_alike_12 : decode cX9_alike 12 = .ok (.iconst 0, 1) := by decide +kernel
theorem dX9_alike_13 : decode cX9_alike 13 = .ok (.istore_n 2, 1) := by decide +kernel
theorem dX9_alike_14 : decode cX9_alike 14 = .ok (.iload_n 2, 1) := by decide +kernel
theorem dX9_alike_15 : decode cX9_alike 15 = .ok (.aload_n 0, 1) := by decide +kernel
theorem dX9_alike_16 : decode cX9_alike 16 = .ok (.getfield 86, 3) := by decide +kernel
theorem dX9_alike_19 : decode cX9_alike 19 = .ok (.if_icmp .ge 97, 3) := by decide +kernel
theorem dX9_alike_22 : decode cX9_alike 22 = .ok (.aload_n 0, 1) := by decide +kernel
theorem dX9_alike_23 : decode cX9_alike 23 = .ok (.getfield 13, 3) := by decide +kernel
theorem dX9_alike_26 : decode cX9_alike 26 = .ok (.iload_n 2, 1) := by decide +kernel
theorem dX9_alike_27 : decode cX9_alike 27 = .ok (.iaload, 1) := by decide +kernel
theorem dX9_alike_28 : decode cX9_alike 28 = .ok (.iload_n 1, 1) := by decide +kernel
theorem dX9_alike_29 : decode cX9_alike 29 = .ok (.if_icmp .eq 6, 3) := by decide +kernel
theorem dX9_alike_32 : decode cX9_alike 32 = .ok (.goto 78, 3) := by decide +kernel
theorem dX9_alike_35 : decode cX9_alike 35 = .ok (.aload_n 0, 1) := by decide +kernel
theorem dX9_alike_36 : decode cX9_alike 36 = .ok (.getfield 16, 3) := by decide +kernel
theorem dX9_alike_39 : decode cX9_alike 39 = .ok (.iload_n 2, 1) := by decide +kernel
theorem dX9_alike_40 : decode cX9_alike 40 = .ok (.iaload, 1) := by decide +kernel
theorem dX9_alike_41 : decode cX9_alike 41 = .ok (.bipush (-2), 2) := by decide +kernel
theorem dX9_alike_43 : decode cX9_alike 43 = .ok (.if_icmp .ne 7, 3) := by decide +kernel
theorem dX9_alike_46 : decode cX9_alike 46 = .ok (.iconst 1, 1) := by decide +kernel
theorem dX9_alike_47 : decode cX9_alike 47 = .ok (.goto 4, 3) := by decide +kernel
theorem dX9_alike_50 : decode cX9_alike 50 = .ok (.iconst 0, 1) := by decide +kernel
theorem dX9_alike_51 : decode cX9_alike 51 = .ok (.istore_n 3, 1) := by decide +kernel
theorem dX9_alike_52 : decode cX9_alike 52 = .ok (.iconst 0, 1) := by decide +kernel
theorem dX9_alike_53 : decode cX9_alike 53 = .ok (.istore 4, 2) := by decide +kernel
theorem dX9_alike_55 : decode cX9_alike 55 = .ok (.iload 4, 2) := by decide +kernel
theorem dX9_alike_57 : decode cX9_alike 57 = .ok (.iload_n 2, 1) := by decide +kernel
theorem dX9_alike_58 : decode cX9_alike 58 = .ok (.if_icmp .ge 46, 3) := by decide +kernel
theorem dX9_alike_61 : decode cX9_alike 61 = .ok (.iload_n 3, 1) := by decide +kernel
theorem dX9_alike_62 : decode cX9_alike 62 = .ok (.ifCond .ne 30, 3) := by decide +kernel
theorem dX9_alike_65 : decode cX9_alike 65 = .ok (.aload_n 0, 1) := by decide +kernel
theorem dX9_alike_66 : decode cX9_alike 66 = .ok (.getfield 13, 3) := by decide +kernel
theorem dX9_alike_69 : decode cX9_alike 69 = .ok (.iload 4, 2) := by decide +kernel
theorem dX9_alike_71 : decode cX9_alike 71 = .ok (.iaload, 1) := by decide +kernel
theorem dX9_alike_72 : decode cX9_alike 72 = .ok (.iload_n 1, 1) := by decide +kernel
theorem dX9_alike_73 : decode cX9_alike 73 = .ok (.if_icmp .ne 23, 3) := by decide +kernel
theorem dX9_alike_76 : decode cX9_alike 76 = .ok (.aload_n 0, 1) := by decide +kernel
theorem dX9_alike_77 : decode cX9_alike 77 = .ok (.getfield 16, 3) := by decide +kernel
theorem dX9_alike_80 : decode cX9_alike 80 = .ok (.iload 4, 2) := by decide +kernel
theorem dX9_alike_82 : decode cX9_alike 82 = .ok (.iaload, 1) := by decide +kernel
theorem dX9_alike_83 : decode cX9_alike 83 = .ok (.aload_n 0, 1) := by decide +kernel
theorem dX9_alike_84 : decode cX9_alike 84 = .ok (.getfield 16, 3) := by decide +kernel
theorem dX9_alike_87 : decode cX9_alike 87 = .ok (.iload_n 2, 1) := by decide +kernel
theorem dX9_alike_88 : decode cX9_alike 88 = .ok (.iaload, 1) := by decide +kernel
theorem dX9_alike_89 : decode cX9_alike 89 = .ok (.if_icmp .ne 7, 3) := by decide +kernel
theorem dX9_alike_92 : decode cX9_alike 92 = .ok (.iconst 1, 1) := by decide +kernel
theorem dX9_alike_93 : decode cX9_alike 93 = .ok (.goto 4, 3) := by decide +kernel
theorem dX9_alike_96 : decode cX9_alike 96 = .ok (.iconst 0, 1) := by decide +kernel
theorem dX9_alike_97 : decode cX9_alike 97 = .ok (.istore_n 3, 1) := by decide +kernel
theorem dX9_alike_98 : decode cX9_alike 98 = .ok (.iinc 4 1, 3) := by decide +kernel
theorem dX9_alike_101 : decode cX9_alike 101 = .ok (.goto (-46), 3) := by decide +kernel
theorem dX9_alike_104 : decode cX9_alike 104 = .ok (.iload_n 3, 1) := by decide +kernel
theorem dX9_alike_105 : decode cX9_alike 105 = .ok (.ifCond .eq 5, 3) := by decide +kernel
theorem dX9_alike_108 : decode cX9_alike 108 = .ok (.iload_n 2, 1) := by decide +kernel
theorem dX9_alike_109 : decode cX9_alike 109 = .ok (.ireturn, 1) := by decide +kernel
theorem dX9_alike_110 : decode cX9_alike 110 = .ok (.iinc 2 1, 3) := by decide +kernel
theorem dX9_alike_113 : decode cX9_alike 113 = .ok (.goto (-99), 3) := by decide +kernel
theorem dX9_alike_116 : decode cX9_alike 116 = .ok (.bipush (-2), 2) := by decide +kernel
theorem dX9_alike_118 : decode cX9_alike 118 = .ok (.ireturn, 1) := by decide +kernel
theorem dX9_link_0 : decode cX9_link 0 = .ok (.aload_n 0, 1) := by decide +kernel
theorem dX9_link_1 : decode cX9_link 1 = .ok (.iload_n 1, 1) := by decide +kernel
theorem dX9_link_2 : decode cX9_link 2 = .ok (.invokevirtual 113, 3) := by decide +kernel
theorem dX9_link_5 : decode cX9_link 5 = .ok (.ifCond .eq 12, 3) := by decide +kernel
theorem dX9_link_8 : decode cX9_link 8 = .ok (.iload_n 2, 1) := by decide +kernel
theorem dX9_link_9 : decode cX9_link 9 = .ok (.iconst 0, 1) := by decide +kernel
theorem dX9_link_10 : decode cX9_link 10 = .ok (.iconst 4, 1) := by decide +kernel
theorem dX9_link_11 : decode cX9_link 11 = .ok (.invokestatic 90, 3) := by decide +kernel
theorem dX9_link_14 : decode cX9_link 14 = .ok (.ifCond .ne 5, 3) := by decide +kernel
theorem dX9_link_17 : decode cX9_link 17 = .ok (.iconst (-1), 1) := by decide +kernel
theorem dX9_link_18 : decode cX9_link 18 = .ok (.ireturn, 1) := by decide +kernel
theorem dX9_link_19 : decode cX9_link 19 = .ok (.iload_n 2, 1) := by decide +kernel
theorem dX9_link_20 : decode cX9_link 20 = .ok (.ifCond .ne 12, 3) := by decide +kernel
theorem dX9_link_23 : decode cX9_link 23 = .ok (.aload_n 0, 1) := by decide +kernel
theorem dX9_link_24 : decode cX9_link 24 = .ok (.getfield 19, 3) := by decide +kernel
theorem dX9_link_27 : decode cX9_link 27 = .ok (.iload_n 1, 1) := by decide +kernel
theorem dX9_link_28 : decode cX9_link 28 = .ok (.iaload, 1) := by decide +kernel
theorem dX9_link_29 : decode cX9_link 29 = .ok (.goto 73, 3) := by decide +kernel
theorem dX9_link_32 : decode cX9_link 32 = .ok (.iload_n 2, 1) := by decide +kernel
theorem dX9_link_33 : decode cX9_link 33 = .ok (.iconst 1, 1) := by decide +kernel
theorem dX9_link_34 : decode cX9_link 34 = .ok (.if_icmp .ne 12, 3) := by decide +kernel
theorem dX9_link_37 : decode cX9_link 37 = .ok (.aload_n 0, 1) := by decide +kernel
theorem dX9_link_38 : decode cX9_link 38 = .ok (.getfield 22, 3) := by decide +kernel
theorem dX9_link_41 : decode cX9_link 41 = .ok (.iload_n 1, 1) := by decide +kernel
theorem dX9_link_42 : decode cX9_link 42 = .ok (.iaload, 1) := by decide +kernel
theorem dX9_link_43 : decode cX9_link 43 = .ok (.goto 59, 3) := by decide +kernel
theorem dX9_link_46 : decode cX9_link 46 = .ok (.iload_n 2, 1) := by decide +kernel
theorem dX9_link_47 : decode cX9_link 47 = .ok (.iconst 2, 1) := by decide +kernel
theorem dX9_link_48 : decode cX9_link 48 = .ok (.if_icmp .ne 12, 3) := by decide +kernel
theorem dX9_link_51 : decode cX9_link 51 = .ok (.aload_n 0, 1) := by decide +kernel
theorem dX9_link_52 : decode cX9_link 52 = .ok (.getfield 25, 3) := by decide +kernel
theorem dX9_link_55 : decode cX9_link 55 = .ok (.iload_n 1, 1) := by decide +kernel
