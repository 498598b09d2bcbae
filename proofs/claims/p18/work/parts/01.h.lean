theorem dL_law_479 : decode cL_law 479 = .ok (.aload 9, 2) := by decide +kernel
theorem dL_law_481 : decode cL_law 481 = .ok (.iload 16, 2) := by decide +kernel
theorem dL_law_483 : decode cL_law 483 = .ok (.aaload, 1) := by decide +kernel
theorem dL_law_484 : decode cL_law 484 = .ok (.iconst 1, 1) := by decide +kernel
theorem dL_law_485 : decode cL_law 485 = .ok (.iaload, 1) := by decide +kernel
theorem dL_law_486 : decode cL_law 486 = .ok (.iconst 1, 1) := by decide +kernel
theorem dL_law_487 : decode cL_law 487 = .ok (.if_icmp .le 26, 3) := by decide +kernel
theorem dL_law_490 : decode cL_law 490 = .ok (.iload 17, 2) := by decide +kernel
theorem dL_law_492 : decode cL_law 492 = .ok (.iload 19, 2) := by decide +kernel
theorem dL_law_494 : decode cL_law 494 = .ok (.if_icmp .ne 17, 3) := by decide +kernel
theorem dL_law_497 : decode cL_law 497 = .ok (.iload 18, 2) := by decide +kernel
theorem dL_law_499 : decode cL_law 499 = .ok (.aload 9, 2) := by decide +kernel
theorem dL_law_501 : decode cL_law 501 = .ok (.iload 16, 2) := by decide +kernel
theorem dL_law_503 : decode cL_law 503 = .ok (.aaload, 1) := by decide +kernel
theorem dL_law_504 : decode cL_law 504 = .ok (.iconst 1, 1) := by decide +kernel
theorem dL_law_505 : decode cL_law 505 = .ok (.iaload, 1) := by decide +kernel
theorem dL_law_506 : decode cL_law 506 = .ok (.iconst 1, 1) := by decide +kernel
theorem dL_law_507 : decode cL_law 507 = .ok (.isub, 1) := by decide +kernel
theorem dL_law_508 : decode cL_law 508 = .ok (.if_icmp .eq 5, 3) := by decide +kernel
theorem dL_law_511 : decode cL_law 511 = .ok (.iconst 0, 1) := by decide +kernel
theorem dL_law_512 : decode cL_law 512 = .ok (.ireturn, 1) := by decide +kernel
theorem dL_law_513 : decode cL_law 513 = .ok (.iload 19, 2) := by decide +kernel
theorem dL_law_515 : decode cL_law 515 = .ok (.iconst 1, 1) := by decide +kernel
theorem dL_law_516 : decode cL_law 516 = .ok (.if_icmp .ne 45, 3) := by decide +kernel
theorem dL_law_519 : decode cL_law 519 = .ok (.iload 17, 2) := by decide +kernel
theorem dL_law_521 : decode cL_law 521 = .ok (.ifCond .eq 38, 3) := by decide +kernel
theorem dL_law_524 : decode cL_law 524 = .ok (.iload 17, 2) := by decide +kernel
theorem dL_law_526 : decode cL_law 526 = .ok (.iconst 1, 1) := by decide +kernel
theorem dL_law_527 : decode cL_law 527 = .ok (.if_icmp .ne 17, 3) := by decide +kernel
theorem dL_law_530 : decode cL_law 530 = .ok (.iload 18, 2) := by decide +kernel
theorem dL_law_532 : decode cL_law 532 = .ok (.aload 9, 2) := by decide +kernel
theorem dL_law_534 : decode cL_law 534 = .ok (.iload 16, 2) := by decide +kernel
theorem dL_law_536 : decode cL_law 536 = .ok (.aaload, 1) := by decide +kernel
theorem dL_law_537 : decode cL_law 537 = .ok (.iconst 1, 1) := by decide +kernel
theorem dL_law_538 : decode cL_law 538 = .ok (.iaload, 1) := by decide +kernel
theorem dL_law_539 : decode cL_law 539 = .ok (.iconst 1, 1) := by decide +kernel
theorem dL_law_540 : decode cL_law 540 = .ok (.isub, 1) := by decide +kernel
theorem dL_law_541 : decode cL_law 541 = .ok (.if_icmp .ne 18, 3) := by decide +kernel
theorem dL_law_544 : decode cL_law 544 = .ok (.iload 17, 2) := by decide +kernel
theorem dL_law_546 : decode cL_law 546 = .ok (.iconst 1, 1) := by decide +kernel
theorem dL_law_547 : decode cL_law 547 = .ok (.if_icmp .le 14, 3) := by decide +kernel
theorem dL_law_550 : decode cL_law 550 = .ok (.iload 20, 2) := by decide +kernel
theorem dL_law_552 : decode cL_law 552 = .ok (.iload 21, 2) := by decide +kernel
theorem dL_law_554 : decode cL_law 554 = .ok (.iadd, 1) := by decide +kernel
theorem dL_law_555 : decode cL_law 555 = .ok (.iconst 1, 1) := by decide +kernel
theorem dL_law_556 : decode cL_law 556 = .ok (.if_icmp .eq 5, 3) := by decide +kernel
theorem dL_law_559 : decode cL_law 559 = .ok (.iconst 0, 1) := by decide +kernel
theorem dL_law_560 : decode cL_law 560 = .ok (.ireturn, 1) := by decide +kernel
theorem dL_law_561 : decode cL_law 561 = .ok (.iload 19, 2) := by decide +kernel
theorem dL_law_563 : decode cL_law 563 = .ok (.ifCond .ne 20, 3) := by decide +kernel
theorem dL_law_566 : decode cL_law 566 = .ok (.iload 17, 2) := by decide +kernel
theorem dL_law_568 : decode cL_law 568 = .ok (.iconst 1, 1) := by decide +kernel
theorem dL_law_569 : decode cL_law 569 = .ok (.if_icmp .le 14, 3) := by decide +kernel
theorem dL_law_572 : decode cL_law 572 = .ok (.iload 20, 2) := by decide +kernel
theorem dL_law_574 : decode cL_law 574 = .ok (.iload 21, 2) := by decide +kernel
theorem dL_law_576 : decode cL_law 576 = .ok (.iadd, 1) := by decide +kernel
theorem dL_law_577 : decode cL_law 577 = .ok (.iconst 1, 1) := by decide +kernel
theorem dL_law_578 : decode cL_law 578 = .ok (.if_icmp .eq 5, 3) := by decide +kernel
theorem dL_law_581 : decode cL_law 581 = .ok (.iconst 0, 1) := by decide +kernel
theorem dL_law_582 : decode cL_law 582 = .ok (.ireturn, 1) := by decide +kernel
theorem dL_law_583 : decode cL_law 583 = .ok (.iload 19, 2) := by decide +kernel
theorem dL_law_585 : decode cL_law 585 = .ok (.iconst 1, 1) := by decide +kernel
theorem dL_law_586 : decode cL_law 586 = .ok (.if_icmp .ne 22, 3) := by decide +kernel
theorem dL_law_589 : decode cL_law 589 = .ok (.aload 9, 2) := by decide +kernel
theorem dL_law_591 : decode cL_law 591 = .ok (.iload 16, 2) := by decide +kernel
theorem dL_law_593 : decode cL_law 593 = .ok (.aaload, 1) := by decide +kernel
theorem dL_law_594 : decode cL_law 594 = .ok (.iconst 1, 1) := by decide +kernel
theorem dL_law_595 : decode cL_law 595 = .ok (.iaload, 1) := by decide +kernel
theorem dL_law_596 : decode cL_law 596 = .ok (.iconst 1, 1) := by decide +kernel
theorem dL_law_597 : decode cL_law 597 = .ok (.if_icmp .ne 11, 3) := by decide +kernel
theorem dL_law_600 : decode cL_law 600 = .ok (.iload 17, 2) := by decide +kernel
theorem dL_law_602 : decode cL_law 602 = .ok (.iconst 1, 1) := by decide +kernel
theorem dL_law_603 : decode cL_law 603 = .ok (.if_icmp .ne 5, 3) := by decide +kernel
theorem dL_law_606 : decode cL_law 606 = .ok (.iconst 0, 1) := by decide +kernel
theorem dL_law_607 : decode cL_law 607 = .ok (.ireturn, 1) := by decide +kernel
theorem dL_law_608 : decode cL_law 608 = .ok (.aload_n 1, 1) := by decide +kernel
theorem dL_law_609 : decode cL_law 609 = .ok (.iload 16, 2) := by decide +kernel
theorem dL_law_611 : decode cL_law 611 = .ok (.iconst 3, 1) := by decide +kernel
theorem dL_law_612 : decode cL_law 612 = .ok (.invokevirtual 85, 3) := by decide +kernel
theorem dL_law_615 : decode cL_law 615 = .ok (.istore 22, 2) := by decide +kernel
theorem dL_law_617 : decode cL_law 617 = .ok (.aload_n 1, 1) := by decide +kernel
theorem dL_law_618 : decode cL_law 618 = .ok (.iload 16, 2) := by decide +kernel
theorem dL_law_620 : decode cL_law 620 = .ok (.iconst 4, 1) := by decide +kernel
theorem dL_law_621 : decode cL_law 621 = .ok (.invokevirtual 85, 3) := by decide +kernel
theorem dL_law_624 : decode cL_law 624 = .ok (.istore 23, 2) := by decide +kernel
theorem dL_law_626 : decode cL_law 626 = .ok (.aload_n 1, 1) := by decide +kernel
theorem dL_law_627 : decode cL_law 627 = .ok (.iload 16, 2) := by decide +kernel
theorem dL_law_629 : decode cL_law 629 = .ok (.iconst 5, 1) := by decide +kernel
theorem dL_law_630 : decode cL_law 630 = .ok (.invokevirtual 85, 3) := by decide +kernel
theorem dL_law_633 : decode cL_law 633 = .ok (.istore 24, 2) := by decide +kernel
theorem dL_law_635 : decode cL_law 635 = .ok (.iload 23, 2) := by decide +kernel
theorem dL_law_637 : decode cL_law 637 = .ok (.ifCond .lt 57, 3) := by decide +kernel
theorem dL_law_640 : decode cL_law 640 = .ok (.iload 23, 2) := by decide +kernel
theorem dL_law_642 : decode cL_law 642 = .ok (.iload 22, 2) := by decide +kernel
theorem dL_law_644 : decode cL_law 644 = .ok (.if_icmp .gt 50, 3) := by decide +kernel
theorem dL_law_647 : decode cL_law 647 = .ok (.iload 24, 2) := by decide +kernel
theorem dL_law_649 : decode cL_law 649 = .ok (.ifCond .lt 45, 3) := by decide +kernel
theorem dL_law_652 : decode cL_law 652 = .ok (.iload 24, 2) := by decide +kernel
theorem dL_law_654 : decode cL_law 654 = .ok (.iload 23, 2) := by decide +kernel
theorem dL_law_656 : decode cL_law 656 = .ok (.if_icmp .gt 38, 3) := by decide +kernel
theorem dL_law_659 : decode cL_law 659 = .ok (.iload 17, 2) := by decide +kernel
theorem dL_law_661 : decode cL_law 661 = .ok (.iconst 1, 1) := by decide +kernel
theorem dL_law_662 : decode cL_law 662 = .ok (.if_icmp .eq 19, 3) := by decide +kernel
theorem dL_law_665 : decode cL_law 665 = .ok (.iload 23, 2) := by decide +kernel
theorem dL_law_667 : decode cL_law 667 = .ok (.ifCond .ne 27, 3) := by decide +kernel
theorem dL_law_670 : decode cL_law 670 = .ok (.aload_n 1, 1) := by decide +kernel
theorem dL_law_671 : decode cL_law 671 = .ok (.iload 16, 2) := by decide +kernel
theorem dL_law_673 : decode cL_law 673 = .ok (.bipush 6, 2) := by decide +kernel
theorem dL_law_675 : decode cL_law 675 = .ok (.invokevirtual 85, 3) := by decide +kernel
theorem dL_law_678 : decode cL_law 678 = .ok (.ifCond .ne 16, 3) := by decide +kernel
theorem dL_law_681 : decode cL_law 681 = .ok (.iload 17, 2) := by decide +kernel
theorem dL_law_683 : decode cL_law 683 = .ok (.iconst 1, 1) := by decide +kernel
theorem dL_law_684 : decode cL_law 684 = .ok (.if_icmp .ne 12, 3) := by decide +kernel
theorem dL_law_687 : decode cL_law 687 = .ok (.iload 23, 2) := by decide +kernel
theorem dL_law_689 : decode cL_law 689 = .ok (.iload 22, 2) := by decide +kernel
theorem dL_law_691 : decode cL_law 691 = .ok (.if_icmp .ne 5, 3) := by decide +kernel
theorem dL_law_694 : decode cL_law 694 = .ok (.iconst 0, 1) := by decide +kernel
theorem dL_law_695 : decode cL_law 695 = .ok (.ireturn, 1) := by decide +kernel
theorem dL_law_696 : decode cL_law 696 = .ok (.iconst 0, 1) := by decide +kernel
theorem dL_law_697 : decode cL_law 697 = .ok (.istore 25, 2) := by decide +kernel
theorem dL_law_699 : decode cL_law 699 = .ok (.iconst 0, 1) := by decide +kernel
theorem dL_law_700 : decode cL_law 700 = .ok (.istore 26, 2) := by decide +kernel
theorem dL_law_702 : decode cL_law 702 = .ok (.iload 26, 2) := by decide +kernel
theorem dL_law_704 : decode cL_law 704 = .ok (.iload 22, 2) := by decide +kernel
theorem dL_law_706 : decode cL_law 706 = .ok (.if_icmp .ge 31, 3) := by decide +kernel
theorem dL_law_709 : decode cL_law 709 = .ok (.iload 25, 2) := by decide +kernel
theorem dL_law_711 : decode cL_law 711 = .ok (.aload_n 1, 1) := by decide +kernel
theorem dL_law_712 : decode cL_law 712 = .ok (.iload 16, 2) := by decide +kernel
theorem dL_law_714 : decode cL_law 714 = .ok (.iload 26, 2) := by decide +kernel
theorem dL_law_716 : decode cL_law 716 = .ok (.iconst 2, 1) := by decide +kernel
theorem dL_law_717 : decode cL_law 717 = .ok (.invokevirtual 101, 3) := by decide +kernel
theorem dL_law_720 : decode cL_law 720 = .ok (.ifCond .lt 7, 3) := by decide +kernel
theorem dL_law_723 : decode cL_law 723 = .ok (.iconst 1, 1) := by decide +kernel
theorem dL_law_724 : decode cL_law 724 = .ok (.goto 4, 3) := by decide +kernel
theorem dL_law_727 : decode cL_law 727 = .ok (.iconst 0, 1) := by decide +kernel
theorem dL_law_728 : decode cL_law 728 = .ok (.iadd, 1) := by decide +kernel
theorem dL_law_729 : decode cL_law 729 = .ok (.istore 25, 2) := by decide +kernel
theorem dL_law_731 : decode cL_law 731 = .ok (.iinc 26 1, 3) := by decide +kernel
theorem dL_law_734 : decode cL_law 734 = .ok (.goto (-32), 3) := by decide +kernel
theorem dL_law_737 : decode cL_law 737 = .ok (.iload 25, 2) := by decide +kernel
theorem dL_law_739 : decode cL_law 739 = .ok (.iload 23, 2) := by decide +kernel
theorem dL_law_741 : decode cL_law 741 = .ok (.if_icmp .eq 5, 3) := by decide +kernel
theorem dL_law_744 : decode cL_law 744 = .ok (.iconst 0, 1) := by decide +kernel
theorem dL_law_745 : decode cL_law 745 = .ok (.ireturn, 1) := by decide +kernel
theorem dL_law_746 : decode cL_law 746 = .ok (.iconst 0, 1) := by decide +kernel
theorem dL_law_747 : decode cL_law 747 = .ok (.istore 26, 2) := by decide +kernel
theorem dL_law_749 : decode cL_law 749 = .ok (.iload 26, 2) := by decide +kernel
theorem dL_law_751 : decode cL_law 751 = .ok (.iload 22, 2) := by decide +kernel
theorem dL_law_753 : decode cL_law 753 = .ok (.if_icmp .ge 57, 3) := by decide +kernel
theorem dL_law_756 : decode cL_law 756 = .ok (.aload_n 1, 1) := by decide +kernel
theorem dL_law_757 : decode cL_law 757 = .ok (.iload 16, 2) := by decide +kernel
theorem dL_law_759 : decode cL_law 759 = .ok (.invokevirtual 103, 3) := by decide +kernel
theorem dL_law_762 : decode cL_law 762 = .ok (.aload_n 1, 1) := by decide +kernel
theorem dL_law_763 : decode cL_law 763 = .ok (.iload 16, 2) := by decide +kernel
theorem dL_law_765 : decode cL_law 765 = .ok (.iload 26, 2) := by decide +kernel
theorem dL_law_767 : decode cL_law 767 = .ok (.iconst 0, 1) := by decide +kernel
theorem dL_law_768 : decode cL_law 768 = .ok (.invokevirtual 101, 3) := by decide +kernel
theorem dL_law_771 : decode cL_law 771 = .ok (.ishr, 1) := by decide +kernel
theorem dL_law_772 : decode cL_law 772 = .ok (.iconst 1, 1) := by decide +kernel
theorem dL_law_773 : decode cL_law 773 = .ok (.iand, 1) := by decide +kernel
theorem dL_law_774 : decode cL_law 774 = .ok (.ifCond .eq 28, 3) := by decide +kernel
theorem dL_law_777 : decode cL_law 777 = .ok (.aload_n 1, 1) := by decide +kernel
theorem dL_law_778 : decode cL_law 778 = .ok (.aload_n 1, 1) := by decide +kernel
theorem dL_law_779 : decode cL_law 779 = .ok (.iload 16, 2) := by decide +kernel
theorem dL_law_781 : decode cL_law 781 = .ok (.iload 26, 2) := by decide +kernel
theorem dL_law_783 : decode cL_law 783 = .ok (.iconst 0, 1) := by decide +kernel
theorem dL_law_784 : decode cL_law 784 = .ok (.invokevirtual 101, 3) := by decide +kernel
theorem dL_law_787 : decode cL_law 787 = .ok (.invokevirtual 103, 3) := by decide +kernel
theorem dL_law_790 : decode cL_law 790 = .ok (.aload_n 1, 1) := by decide +kernel
theorem dL_law_791 : decode cL_law 791 = .ok (.iload 16, 2) := by decide +kernel
theorem dL_law_793 : decode cL_law 793 = .ok (.invokevirtual 103, 3) := by decide +kernel
theorem dL_law_796 : decode cL_law 796 = .ok (.iconst (-1), 1) := by decide +kernel
theorem dL_law_797 : decode cL_law 797 = .ok (.ixor, 1) := by decide +kernel
theorem dL_law_798 : decode cL_law 798 = .ok (.iand, 1) := by decide +kernel
theorem dL_law_799 : decode cL_law 799 = .ok (.ifCond .eq 5, 3) := by decide +kernel
theorem dL_law_802 : decode cL_law 802 = .ok (.iconst 0, 1) := by decide +kernel
theorem dL_law_803 : decode cL_law 803 = .ok (.ireturn, 1) := by decide +kernel
theorem dL_law_804 : decode cL_law 804 = .ok (.iinc 26 1, 3) := by decide +kernel
theorem dL_law_807 : decode cL_law 807 = .ok (.goto (-58), 3) := by decide +kernel
theorem dL_law_810 : decode cL_law 810 = .ok (.iinc 16 1, 3) := by decide +kernel
theorem dL_law_813 : decode cL_law 813 = .ok (.goto (-527), 3) := by decide +kernel
theorem dL_law_816 : decode cL_law 816 = .ok (.iload 13, 2) := by decide +kernel
theorem dL_law_818 : decode cL_law 818 = .ok (.iload 12, 2) := by decide +kernel
theorem dL_law_820 : decode cL_law 820 = .ok (.if_icmp .ne 25, 3) := by decide +kernel
theorem dL_law_823 : decode cL_law 823 = .ok (.aload_n 1, 1) := by decide +kernel
theorem dL_law_824 : decode cL_law 824 = .ok (.bipush 8, 2) := by decide +kernel
theorem dL_law_826 : decode cL_law 826 = .ok (.invokevirtual 88, 3) := by decide +kernel
theorem dL_law_829 : decode cL_law 829 = .ok (.iload 15, 2) := by decide +kernel
theorem dL_law_831 : decode cL_law 831 = .ok (.if_icmp .ne 14, 3) := by decide +kernel
theorem dL_law_834 : decode cL_law 834 = .ok (.aload_n 1, 1) := by decide +kernel
theorem dL_law_835 : decode cL_law 835 = .ok (.bipush 6, 2) := by decide +kernel
theorem dL_law_837 : decode cL_law 837 = .ok (.invokevirtual 88, 3) := by decide +kernel
theorem dL_law_840 : decode cL_law 840 = .ok (.bipush 60, 2) := by decide +kernel
theorem dL_law_842 : decode cL_law 842 = .ok (.if_icmp .le 5, 3) := by decide +kernel
theorem dL_law_845 : decode cL_law 845 = .ok (.iconst 0, 1) := by decide +kernel
theorem dL_law_846 : decode cL_law 846 = .ok (.ireturn, 1) := by decide +kernel
theorem dL_law_847 : decode cL_law 847 = .ok (.iconst 0, 1) := by decide +kernel
theorem dL_law_848 : decode cL_law 848 = .ok (.istore 16, 2) := by decide +kernel
theorem dL_law_850 : decode cL_law 850 = .ok (.iload 16, 2) := by decide +kernel
theorem dL_law_852 : decode cL_law 852 = .ok (.iconst 4, 1) := by decide +kernel
theorem dL_law_853 : decode cL_law 853 = .ok (.if_icmp .ge 27, 3) := by decide +kernel
theorem dL_law_856 : decode cL_law 856 = .ok (.aload_n 1, 1) := by decide +kernel
theorem dL_law_857 : decode cL_law 857 = .ok (.iconst 2, 1) := by decide +kernel
theorem dL_law_858 : decode cL_law 858 = .ok (.iload 16, 2) := by decide +kernel
theorem dL_law_860 : decode cL_law 860 = .ok (.iadd, 1) := by decide +kernel
theorem dL_law_861 : decode cL_law 861 = .ok (.invokevirtual 88, 3) := by decide +kernel
theorem dL_law_864 : decode cL_law 864 = .ok (.aload 14, 2) := by decide +kernel
theorem dL_law_866 : decode cL_law 866 = .ok (.iload 16, 2) := by decide +kernel
theorem dL_law_868 : decode cL_law 868 = .ok (.iaload, 1) := by decide +kernel
theorem dL_law_869 : decode cL_law 869 = .ok (.if_icmp .eq 5, 3) := by decide +kernel
theorem dL_law_872 : decode cL_law 872 = .ok (.iconst 0, 1) := by decide +kernel
theorem dL_law_873 : decode cL_law 873 = .ok (.ireturn, 1) := by decide +kernel
theorem dL_law_874 : decode cL_law 874 = .ok (.iinc 16 1, 3) := by decide +kernel
theorem dL_law_877 : decode cL_law 877 = .ok (.goto (-27), 3) := by decide +kernel
theorem dL_law_880 : decode cL_law 880 = .ok (.iconst 0, 1) := by decide +kernel
theorem dL_law_881 : decode cL_law 881 = .ok (.istore 16, 2) := by decide +kernel
theorem dL_law_883 : decode cL_law 883 = .ok (.iload 16, 2) := by decide +kernel
theorem dL_law_885 : decode cL_law 885 = .ok (.aload_n 1, 1) := by decide +kernel
theorem dL_law_886 : decode cL_law 886 = .ok (.bipush 6, 2) := by decide +kernel
theorem dL_law_888 : decode cL_law 888 = .ok (.invokevirtual 88, 3) := by decide +kernel
theorem dL_law_891 : decode cL_law 891 = .ok (.if_icmp .ge 159, 3) := by decide +kernel
theorem dL_law_894 : decode cL_law 894 = .ok (.aload_n 1, 1) := by decide +kernel
theorem dL_law_895 : decode cL_law 895 = .ok (.iload 16, 2) := by decide +kernel
theorem dL_law_897 : decode cL_law 897 = .ok (.iconst 0, 1) := by decide +kernel
theorem dL_law_898 : decode cL_law 898 = .ok (.invokevirtual 106, 3) := by decide +kernel
theorem dL_law_901 : decode cL_law 901 = .ok (.istore 17, 2) := by decide +kernel
theorem dL_law_903 : decode cL_law 903 = .ok (.aload_n 1, 1) := by decide +kernel
theorem dL_law_904 : decode cL_law 904 = .ok (.iload 16, 2) := by decide +kernel
theorem dL_law_906 : decode cL_law 906 = .ok (.iconst 1, 1) := by decide +kernel
theorem dL_law_907 : decode cL_law 907 = .ok (.invokevirtual 106, 3) := by decide +kernel
theorem dL_law_910 : decode cL_law 910 = .ok (.istore 18, 2) := by decide +kernel
theorem dL_law_912 : decode cL_law 912 = .ok (.aload_n 1, 1) := by decide +kernel
theorem dL_law_913 : decode cL_law 913 = .ok (.iload 16, 2) := by decide +kernel
theorem dL_law_915 : decode cL_law 915 = .ok (.iconst 2, 1) := by decide +kernel
theorem dL_law_916 : decode cL_law 916 = .ok (.invokevirtual 106, 3) := by decide +kernel
theorem dL_law_919 : decode cL_law 919 = .ok (.ifCond .ne 7, 3) := by decide +kernel
theorem dL_law_922 : decode cL_law 922 = .ok (.iconst 1, 1) := by decide +kernel
theorem dL_law_923 : decode cL_law 923 = .ok (.goto 4, 3) := by decide +kernel
theorem dL_law_926 : decode cL_law 926 = .ok (.iconst 0, 1) := by decide +kernel
theorem dL_law_927 : decode cL_law 927 = .ok (.istore 19, 2) := by decide +kernel
theorem dL_law_929 : decode cL_law 929 = .ok (.iload 19, 2) := by decide +kernel
theorem dL_law_931 : decode cL_law 931 = .ok (.ifCond .eq 8, 3) := by decide +kernel
theorem dL_law_934 : decode cL_law 934 = .ok (.iload 17, 2) := by decide +kernel
theorem dL_law_936 : decode cL_law 936 = .ok (.goto 5, 3) := by decide +kernel
theorem dL_law_939 : decode cL_law 939 = .ok (.iload 18, 2) := by decide +kernel
theorem dL_law_941 : decode cL_law 941 = .ok (.istore 20, 2) := by decide +kernel
theorem dL_law_943 : decode cL_law 943 = .ok (.iload 19, 2) := by decide +kernel
theorem dL_law_945 : decode cL_law 945 = .ok (.ifCond .eq 8, 3) := by decide +kernel
theorem dL_law_948 : decode cL_law 948 = .ok (.iload 18, 2) := by decide +kernel
theorem dL_law_950 : decode cL_law 950 = .ok (.goto 5, 3) := by decide +kernel
theorem dL_law_953 : decode cL_law 953 = .ok (.iload 17, 2) := by decide +kernel
theorem dL_law_955 : decode cL_law 955 = .ok (.istore 21, 2) := by decide +kernel
theorem dL_law_957 : decode cL_law 957 = .ok (.iconst 0, 1) := by decide +kernel
theorem dL_law_958 : decode cL_law 958 = .ok (.istore 22, 2) := by decide +kernel
theorem dL_law_960 : decode cL_law 960 = .ok (.iconst 0, 1) := by decide +kernel
theorem dL_law_961 : decode cL_law 961 = .ok (.istore 23, 2) := by decide +kernel
theorem dL_law_963 : decode cL_law 963 = .ok (.iload 23, 2) := by decide +kernel
theorem dL_law_965 : decode cL_law 965 = .ok (.aload_n 1, 1) := by decide +kernel
theorem dL_law_966 : decode cL_law 966 = .ok (.iload 20, 2) := by decide +kernel
theorem dL_law_968 : decode cL_law 968 = .ok (.iconst 3, 1) := by decide +kernel
theorem dL_law_969 : decode cL_law 969 = .ok (.invokevirtual 85, 3) := by decide +kernel
theorem dL_law_972 : decode cL_law 972 = .ok (.if_icmp .ge 65, 3) := by decide +kernel
theorem dL_law_975 : decode cL_law 975 = .ok (.iload 22, 2) := by decide +kernel
theorem dL_law_977 : decode cL_law 977 = .ok (.ifCond .ne 47, 3) := by decide +kernel
theorem dL_law_980 : decode cL_law 980 = .ok (.aload_n 1, 1) := by decide +kernel
theorem dL_law_981 : decode cL_law 981 = .ok (.iload 20, 2) := by decide +kernel
theorem dL_law_983 : decode cL_law 983 = .ok (.iload 23, 2) := by decide +kernel
theorem dL_law_985 : decode cL_law 985 = .ok (.iconst 0, 1) := by decide +kernel
theorem dL_law_986 : decode cL_law 986 = .ok (.invokevirtual 101, 3) := by decide +kernel
theorem dL_law_989 : decode cL_law 989 = .ok (.iload 21, 2) := by decide +kernel
theorem dL_law_991 : decode cL_law 991 = .ok (.if_icmp .ne 37, 3) := by decide +kernel
theorem dL_law_994 : decode cL_law 994 = .ok (.aload_n 1, 1) := by decide +kernel
theorem dL_law_995 : decode cL_law 995 = .ok (.iload 16, 2) := by decide +kernel
theorem dL_law_997 : decode cL_law 997 = .ok (.iconst 3, 1) := by decide +kernel
theorem dL_law_998 : decode cL_law 998 = .ok (.invokevirtual 106, 3) := by decide +kernel
theorem dL_law_1001 : decode cL_law 1001 = .ok (.iconst 1, 1) := by decide +kernel
theorem dL_law_1002 : decode cL_law 1002 = .ok (.if_icmp .lt 26, 3) := by decide +kernel
theorem dL_law_1005 : decode cL_law 1005 = .ok (.aload_n 1, 1) := by decide +kernel
theorem dL_law_1006 : decode cL_law 1006 = .ok (.iload 16, 2) := by decide +kernel
theorem dL_law_1008 : decode cL_law 1008 = .ok (.iconst 3, 1) := by decide +kernel
theorem dL_law_1009 : decode cL_law 1009 = .ok (.invokevirtual 106, 3) := by decide +kernel
theorem dL_law_1012 : decode cL_law 1012 = .ok (.aload_n 1, 1) := by decide +kernel
theorem dL_law_1013 : decode cL_law 1013 = .ok (.iload 20, 2) := by decide +kernel
theorem dL_law_1015 : decode cL_law 1015 = .ok (.iload 23, 2) := by decide +kernel
theorem dL_law_1017 : decode cL_law 1017 = .ok (.iconst 1, 1) := by decide +kernel
theorem dL_law_1018 : decode cL_law 1018 = .ok (.invokevirtual 101, 3) := by decide +kernel
theorem dL_law_1021 : decode cL_law 1021 = .ok (.if_icmp .gt 7, 3) := by decide +kernel
theorem dL_law_1024 : decode cL_law 1024 = .ok (.iconst 1, 1) := by decide +kernel
theorem dL_law_1025 : decode cL_law 1025 = .ok (.goto 4, 3) := by decide +kernel
theorem dL_law_1028 : decode cL_law 1028 = .ok (.iconst 0, 1) := by decide +kernel
theorem dL_law_1029 : decode cL_law 1029 = .ok (.istore 22, 2) := by decide +kernel
theorem dL_law_1031 : decode cL_law 1031 = .ok (.iinc 23 1, 3) := by decide +kernel
theorem dL_law_1034 : decode cL_law 1034 = .ok (.goto (-71), 3) := by decide +kernel
theorem dL_law_1037 : decode cL_law 1037 = .ok (.iload 22, 2) := by decide +kernel
theorem dL_law_1039 : decode cL_law 1039 = .ok (.ifCond .ne 5, 3) := by decide +kernel
theorem dL_law_1042 : decode cL_law 1042 = .ok (.iconst 0, 1) := by decide +kernel
theorem dL_law_1043 : decode cL_law 1043 = .ok (.ireturn, 1) := by decide +kernel
theorem dL_law_1044 : decode cL_law 1044 = .ok (.iinc 16 1, 3) := by decide +kernel
theorem dL_law_1047 : decode cL_law 1047 = .ok (.goto (-164), 3) := by decide +kernel
theorem dL_law_1050 : decode cL_law 1050 = .ok (.iinc 4 1, 3) := by decide +kernel
theorem dL_law_1053 : decode cL_law 1053 = .ok (.goto (-1024), 3) := by decide +kernel
theorem dL_law_1056 : decode cL_law 1056 = .ok (.aload_n 2, 1) := by decide +kernel
theorem dL_law_1057 : decode cL_law 1057 = .ok (.aload_n 1, 1) := by decide +kernel
theorem dL_law_1058 : decode cL_law 1058 = .ok (.invokevirtual 109, 3) := by decide +kernel
theorem dL_law_1061 : decode cL_law 1061 = .ok (.ireturn, 1) := by decide +kernel
abbrev vwCl : List vw_C := [(RX0, TX0, 14), (RX1, TX1, 5), (RX2, TX2, 7), (RX3, TX3, 2), (RX4, TX4, 9), (RX5, TX5, 4)]

