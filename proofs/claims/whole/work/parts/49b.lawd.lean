theorem dw_500 : decode code 500 = .ok (.iload 4, 2) := by decide +kernel
theorem dw_502 : decode code 502 = .ok (.iconst 1, 1) := by decide +kernel
theorem dw_503 : decode code 503 = .ok (.iadd, 1) := by decide +kernel
theorem dw_504 : decode code 504 = .ok (.iaload, 1) := by decide +kernel
theorem dw_505 : decode code 505 = .ok (.aload_n 0, 1) := by decide +kernel
theorem dw_506 : decode code 506 = .ok (.iload 4, 2) := by decide +kernel
theorem dw_508 : decode code 508 = .ok (.iconst 2, 1) := by decide +kernel
theorem dw_509 : decode code 509 = .ok (.iadd, 1) := by decide +kernel
theorem dw_510 : decode code 510 = .ok (.iaload, 1) := by decide +kernel
theorem dw_511 : decode code 511 = .ok (.aload_n 0, 1) := by decide +kernel
theorem dw_512 : decode code 512 = .ok (.iload 4, 2) := by decide +kernel
theorem dw_514 : decode code 514 = .ok (.iconst 3, 1) := by decide +kernel
theorem dw_515 : decode code 515 = .ok (.iadd, 1) := by decide +kernel
theorem dw_516 : decode code 516 = .ok (.iaload, 1) := by decide +kernel
theorem dw_517 : decode code 517 = .ok (.invokevirtual 131, 3) := by decide +kernel
theorem dw_520 : decode code 520 = .ok (.istore 6, 2) := by decide +kernel
theorem dw_522 : decode code 522 = .ok (.aload_n 2, 1) := by decide +kernel
theorem dw_523 : decode code 523 = .ok (.invokevirtual 106, 3) := by decide +kernel
theorem dw_526 : decode code 526 = .ok (.iload 5, 2) := by decide +kernel
theorem dw_528 : decode code 528 = .ok (.if_icmp .eq 5, 3) := by decide +kernel
theorem dw_531 : decode code 531 = .ok (.iconst 0, 1) := by decide +kernel
theorem dw_532 : decode code 532 = .ok (.ireturn, 1) := by decide +kernel
theorem dw_533 : decode code 533 = .ok (.iload 5, 2) := by decide +kernel
theorem dw_535 : decode code 535 = .ok (.ifCond .ne 22, 3) := by decide +kernel
theorem dw_538 : decode code 538 = .ok (.aload_n 3, 1) := by decide +kernel
theorem dw_539 : decode code 539 = .ok (.iconst 0, 1) := by decide +kernel
theorem dw_540 : decode code 540 = .ok (.laload, 1) := by decide +kernel
theorem dw_541 : decode code 541 = .ok (.iload 6, 2) := by decide +kernel
theorem dw_543 : decode code 543 = .ok (.ifCond .eq 7, 3) := by decide +kernel
theorem dw_546 : decode code 546 = .ok (.lconst 1, 1) := by decide +kernel
theorem dw_547 : decode code 547 = .ok (.goto 4, 3) := by decide +kernel
theorem dw_550 : decode code 550 = .ok (.lconst 0, 1) := by decide +kernel
theorem dw_551 : decode code 551 = .ok (.lcmp, 1) := by decide +kernel
theorem dw_552 : decode code 552 = .ok (.ifCond .eq 5, 3) := by decide +kernel
theorem dw_555 : decode code 555 = .ok (.iconst 0, 1) := by decide +kernel
theorem dw_556 : decode code 556 = .ok (.ireturn, 1) := by decide +kernel
theorem dw_557 : decode code 557 = .ok (.goto 1210, 3) := by decide +kernel
theorem dw_560 : decode code 560 = .ok (.aload_n 1, 1) := by decide +kernel
theorem dw_561 : decode code 561 = .ok (.aload_n 0, 1) := by decide +kernel
theorem dw_562 : decode code 562 = .ok (.iload 4, 2) := by decide +kernel
theorem dw_564 : decode code 564 = .ok (.iconst 1, 1) := by decide +kernel
theorem dw_565 : decode code 565 = .ok (.iadd, 1) := by decide +kernel
theorem dw_566 : decode code 566 = .ok (.iaload, 1) := by decide +kernel
theorem dw_567 : decode code 567 = .ok (.aload_n 0, 1) := by decide +kernel
theorem dw_568 : decode code 568 = .ok (.iload 4, 2) := by decide +kernel
theorem dw_570 : decode code 570 = .ok (.iconst 2, 1) := by decide +kernel
theorem dw_571 : decode code 571 = .ok (.iadd, 1) := by decide +kernel
theorem dw_572 : decode code 572 = .ok (.iaload, 1) := by decide +kernel
theorem dw_573 : decode code 573 = .ok (.aload_n 3, 1) := by decide +kernel
theorem dw_574 : decode code 574 = .ok (.invokestatic 132, 3) := by decide +kernel
theorem dw_577 : decode code 577 = .ok (.istore 5, 2) := by decide +kernel
theorem dw_579 : decode code 579 = .ok (.aload_n 2, 1) := by decide +kernel
theorem dw_580 : decode code 580 = .ok (.aload_n 0, 1) := by decide +kernel
theorem dw_581 : decode code 581 = .ok (.iload 4, 2) := by decide +kernel
theorem dw_583 : decode code 583 = .ok (.iconst 1, 1) := by decide +kernel
theorem dw_584 : decode code 584 = .ok (.iadd, 1) := by decide +kernel
theorem dw_585 : decode code 585 = .ok (.iaload, 1) := by decide +kernel
theorem dw_586 : decode code 586 = .ok (.aload_n 0, 1) := by decide +kernel
theorem dw_587 : decode code 587 = .ok (.iload 4, 2) := by decide +kernel
theorem dw_589 : decode code 589 = .ok (.iconst 2, 1) := by decide +kernel
theorem dw_590 : decode code 590 = .ok (.iadd, 1) := by decide +kernel
theorem dw_591 : decode code 591 = .ok (.iaload, 1) := by decide +kernel
theorem dw_592 : decode code 592 = .ok (.invokevirtual 134, 3) := by decide +kernel
theorem dw_595 : decode code 595 = .ok (.istore 6, 2) := by decide +kernel
theorem dw_597 : decode code 597 = .ok (.aload_n 2, 1) := by decide +kernel
theorem dw_598 : decode code 598 = .ok (.invokevirtual 106, 3) := by decide +kernel
theorem dw_601 : decode code 601 = .ok (.iload 5, 2) := by decide +kernel
theorem dw_603 : decode code 603 = .ok (.if_icmp .eq 5, 3) := by decide +kernel
theorem dw_606 : decode code 606 = .ok (.iconst 0, 1) := by decide +kernel
theorem dw_607 : decode code 607 = .ok (.ireturn, 1) := by decide +kernel
theorem dw_608 : decode code 608 = .ok (.iload 5, 2) := by decide +kernel
theorem dw_610 : decode code 610 = .ok (.ifCond .ne 15, 3) := by decide +kernel
theorem dw_613 : decode code 613 = .ok (.aload_n 3, 1) := by decide +kernel
theorem dw_614 : decode code 614 = .ok (.iconst 0, 1) := by decide +kernel
theorem dw_615 : decode code 615 = .ok (.laload, 1) := by decide +kernel
theorem dw_616 : decode code 616 = .ok (.iload 6, 2) := by decide +kernel
theorem dw_618 : decode code 618 = .ok (.i2l, 1) := by decide +kernel
theorem dw_619 : decode code 619 = .ok (.lcmp, 1) := by decide +kernel
theorem dw_620 : decode code 620 = .ok (.ifCond .eq 5, 3) := by decide +kernel
theorem dw_623 : decode code 623 = .ok (.iconst 0, 1) := by decide +kernel
theorem dw_624 : decode code 624 = .ok (.ireturn, 1) := by decide +kernel
theorem dw_625 : decode code 625 = .ok (.goto 1142, 3) := by decide +kernel
theorem dw_628 : decode code 628 = .ok (.aload_n 1, 1) := by decide +kernel
theorem dw_629 : decode code 629 = .ok (.aload_n 0, 1) := by decide +kernel
theorem dw_630 : decode code 630 = .ok (.iload 4, 2) := by decide +kernel
theorem dw_632 : decode code 632 = .ok (.iconst 1, 1) := by decide +kernel
theorem dw_633 : decode code 633 = .ok (.iadd, 1) := by decide +kernel
theorem dw_634 : decode code 634 = .ok (.iaload, 1) := by decide +kernel
theorem dw_635 : decode code 635 = .ok (.aload_n 0, 1) := by decide +kernel
theorem dw_636 : decode code 636 = .ok (.iload 4, 2) := by decide +kernel
theorem dw_638 : decode code 638 = .ok (.iconst 2, 1) := by decide +kernel
theorem dw_639 : decode code 639 = .ok (.iadd, 1) := by decide +kernel
theorem dw_640 : decode code 640 = .ok (.iaload, 1) := by decide +kernel
theorem dw_641 : decode code 641 = .ok (.aload_n 3, 1) := by decide +kernel
theorem dw_642 : decode code 642 = .ok (.invokestatic 135, 3) := by decide +kernel
theorem dw_645 : decode code 645 = .ok (.istore 5, 2) := by decide +kernel
theorem dw_647 : decode code 647 = .ok (.aload_n 2, 1) := by decide +kernel
theorem dw_648 : decode code 648 = .ok (.aload_n 0, 1) := by decide +kernel
theorem dw_649 : decode code 649 = .ok (.iload 4, 2) := by decide +kernel
theorem dw_651 : decode code 651 = .ok (.iconst 1, 1) := by decide +kernel
theorem dw_652 : decode code 652 = .ok (.iadd, 1) := by decide +kernel
theorem dw_653 : decode code 653 = .ok (.iaload, 1) := by decide +kernel
theorem dw_654 : decode code 654 = .ok (.aload_n 0, 1) := by decide +kernel
theorem dw_655 : decode code 655 = .ok (.iload 4, 2) := by decide +kernel
theorem dw_657 : decode code 657 = .ok (.iconst 2, 1) := by decide +kernel
theorem dw_658 : decode code 658 = .ok (.iadd, 1) := by decide +kernel
theorem dw_659 : decode code 659 = .ok (.iaload, 1) := by decide +kernel
theorem dw_660 : decode code 660 = .ok (.invokevirtual 137, 3) := by decide +kernel
theorem dw_663 : decode code 663 = .ok (.istore 6, 2) := by decide +kernel
theorem dw_665 : decode code 665 = .ok (.aload_n 2, 1) := by decide +kernel
theorem dw_666 : decode code 666 = .ok (.invokevirtual 106, 3) := by decide +kernel
theorem dw_669 : decode code 669 = .ok (.iload 5, 2) := by decide +kernel
theorem dw_671 : decode code 671 = .ok (.if_icmp .eq 5, 3) := by decide +kernel
theorem dw_674 : decode code 674 = .ok (.iconst 0, 1) := by decide +kernel
theorem dw_675 : decode code 675 = .ok (.ireturn, 1) := by decide +kernel
theorem dw_676 : decode code 676 = .ok (.iload 5, 2) := by decide +kernel
theorem dw_678 : decode code 678 = .ok (.ifCond .ne 15, 3) := by decide +kernel
theorem dw_681 : decode code 681 = .ok (.aload_n 3, 1) := by decide +kernel
theorem dw_682 : decode code 682 = .ok (.iconst 0, 1) := by decide +kernel
theorem dw_683 : decode code 683 = .ok (.laload, 1) := by decide +kernel
theorem dw_684 : decode code 684 = .ok (.iload 6, 2) := by decide +kernel
theorem dw_686 : decode code 686 = .ok (.i2l, 1) := by decide +kernel
theorem dw_687 : decode code 687 = .ok (.lcmp, 1) := by decide +kernel
theorem dw_688 : decode code 688 = .ok (.ifCond .eq 5, 3) := by decide +kernel
theorem dw_691 : decode code 691 = .ok (.iconst 0, 1) := by decide +kernel
theorem dw_692 : decode code 692 = .ok (.ireturn, 1) := by decide +kernel
theorem dw_693 : decode code 693 = .ok (.goto 1074, 3) := by decide +kernel
theorem dw_696 : decode code 696 = .ok (.aload_n 1, 1) := by decide +kernel
theorem dw_697 : decode code 697 = .ok (.aload_n 0, 1) := by decide +kernel
theorem dw_698 : decode code 698 = .ok (.iload 4, 2) := by decide +kernel
theorem dw_700 : decode code 700 = .ok (.iconst 1, 1) := by decide +kernel
theorem dw_701 : decode code 701 = .ok (.iadd, 1) := by decide +kernel
theorem dw_702 : decode code 702 = .ok (.iaload, 1) := by decide +kernel
theorem dw_703 : decode code 703 = .ok (.aload_n 0, 1) := by decide +kernel
theorem dw_704 : decode code 704 = .ok (.iload 4, 2) := by decide +kernel
theorem dw_706 : decode code 706 = .ok (.iconst 2, 1) := by decide +kernel
theorem dw_707 : decode code 707 = .ok (.iadd, 1) := by decide +kernel
theorem dw_708 : decode code 708 = .ok (.iaload, 1) := by decide +kernel
theorem dw_709 : decode code 709 = .ok (.aload_n 3, 1) := by decide +kernel
theorem dw_710 : decode code 710 = .ok (.invokestatic 138, 3) := by decide +kernel
theorem dw_713 : decode code 713 = .ok (.istore 5, 2) := by decide +kernel
theorem dw_715 : decode code 715 = .ok (.aload_n 2, 1) := by decide +kernel
theorem dw_716 : decode code 716 = .ok (.aload_n 0, 1) := by decide +kernel
theorem dw_717 : decode code 717 = .ok (.iload 4, 2) := by decide +kernel
theorem dw_719 : decode code 719 = .ok (.iconst 1, 1) := by decide +kernel
theorem dw_720 : decode code 720 = .ok (.iadd, 1) := by decide +kernel
theorem dw_721 : decode code 721 = .ok (.iaload, 1) := by decide +kernel
theorem dw_722 : decode code 722 = .ok (.aload_n 0, 1) := by decide +kernel
theorem dw_723 : decode code 723 = .ok (.iload 4, 2) := by decide +kernel
theorem dw_725 : decode code 725 = .ok (.iconst 2, 1) := by decide +kernel
theorem dw_726 : decode code 726 = .ok (.iadd, 1) := by decide +kernel
theorem dw_727 : decode code 727 = .ok (.iaload, 1) := by decide +kernel
theorem dw_728 : decode code 728 = .ok (.invokevirtual 140, 3) := by decide +kernel
theorem dw_731 : decode code 731 = .ok (.istore 6, 2) := by decide +kernel
theorem dw_733 : decode code 733 = .ok (.aload_n 2, 1) := by decide +kernel
theorem dw_734 : decode code 734 = .ok (.invokevirtual 106, 3) := by decide +kernel
theorem dw_737 : decode code 737 = .ok (.iload 5, 2) := by decide +kernel
theorem dw_739 : decode code 739 = .ok (.if_icmp .eq 5, 3) := by decide +kernel
theorem dw_742 : decode code 742 = .ok (.iconst 0, 1) := by decide +kernel
theorem dw_743 : decode code 743 = .ok (.ireturn, 1) := by decide +kernel
theorem dw_744 : decode code 744 = .ok (.iload 5, 2) := by decide +kernel
theorem dw_746 : decode code 746 = .ok (.ifCond .ne 15, 3) := by decide +kernel
theorem dw_749 : decode code 749 = .ok (.aload_n 3, 1) := by decide +kernel
theorem dw_750 : decode code 750 = .ok (.iconst 0, 1) := by decide +kernel
theorem dw_751 : decode code 751 = .ok (.laload, 1) := by decide +kernel
theorem dw_752 : decode code 752 = .ok (.iload 6, 2) := by decide +kernel
theorem dw_754 : decode code 754 = .ok (.i2l, 1) := by decide +kernel
theorem dw_755 : decode code 755 = .ok (.lcmp, 1) := by decide +kernel
theorem dw_756 : decode code 756 = .ok (.ifCond .eq 5, 3) := by decide +kernel
theorem dw_759 : decode code 759 = .ok (.iconst 0, 1) := by decide +kernel
theorem dw_760 : decode code 760 = .ok (.ireturn, 1) := by decide +kernel
theorem dw_761 : decode code 761 = .ok (.goto 1006, 3) := by decide +kernel
theorem dw_764 : decode code 764 = .ok (.aload_n 1, 1) := by decide +kernel
theorem dw_765 : decode code 765 = .ok (.aload_n 0, 1) := by decide +kernel
theorem dw_766 : decode code 766 = .ok (.iload 4, 2) := by decide +kernel
theorem dw_768 : decode code 768 = .ok (.iconst 1, 1) := by decide +kernel
theorem dw_769 : decode code 769 = .ok (.iadd, 1) := by decide +kernel
theorem dw_770 : decode code 770 = .ok (.iaload, 1) := by decide +kernel
theorem dw_771 : decode code 771 = .ok (.aload_n 0, 1) := by decide +kernel
theorem dw_772 : decode code 772 = .ok (.iload 4, 2) := by decide +kernel
theorem dw_774 : decode code 774 = .ok (.iconst 2, 1) := by decide +kernel
theorem dw_775 : decode code 775 = .ok (.iadd, 1) := by decide +kernel
theorem dw_776 : decode code 776 = .ok (.iaload, 1) := by decide +kernel
theorem dw_777 : decode code 777 = .ok (.aload_n 3, 1) := by decide +kernel
theorem dw_778 : decode code 778 = .ok (.invokestatic 141, 3) := by decide +kernel
theorem dw_781 : decode code 781 = .ok (.istore 5, 2) := by decide +kernel
theorem dw_783 : decode code 783 = .ok (.aload_n 2, 1) := by decide +kernel
theorem dw_784 : decode code 784 = .ok (.aload_n 0, 1) := by decide +kernel
theorem dw_785 : decode code 785 = .ok (.iload 4, 2) := by decide +kernel
theorem dw_787 : decode code 787 = .ok (.iconst 1, 1) := by decide +kernel
theorem dw_788 : decode code 788 = .ok (.iadd, 1) := by decide +kernel
theorem dw_789 : decode code 789 = .ok (.iaload, 1) := by decide +kernel
theorem dw_790 : decode code 790 = .ok (.aload_n 0, 1) := by decide +kernel
theorem dw_791 : decode code 791 = .ok (.iload 4, 2) := by decide +kernel
theorem dw_793 : decode code 793 = .ok (.iconst 2, 1) := by decide +kernel
theorem dw_794 : decode code 794 = .ok (.iadd, 1) := by decide +kernel
theorem dw_795 : decode code 795 = .ok (.iaload, 1) := by decide +kernel
theorem dw_796 : decode code 796 = .ok (.invokevirtual 143, 3) := by decide +kernel
theorem dw_799 : decode code 799 = .ok (.istore 6, 2) := by decide +kernel
theorem dw_801 : decode code 801 = .ok (.aload_n 2, 1) := by decide +kernel
theorem dw_802 : decode code 802 = .ok (.invokevirtual 106, 3) := by decide +kernel
theorem dw_805 : decode code 805 = .ok (.iload 5, 2) := by decide +kernel
theorem dw_807 : decode code 807 = .ok (.if_icmp .eq 5, 3) := by decide +kernel
theorem dw_810 : decode code 810 = .ok (.iconst 0, 1) := by decide +kernel
theorem dw_811 : decode code 811 = .ok (.ireturn, 1) := by decide +kernel
theorem dw_812 : decode code 812 = .ok (.iload 5, 2) := by decide +kernel
theorem dw_814 : decode code 814 = .ok (.ifCond .ne 15, 3) := by decide +kernel
theorem dw_817 : decode code 817 = .ok (.aload_n 3, 1) := by decide +kernel
theorem dw_818 : decode code 818 = .ok (.iconst 0, 1) := by decide +kernel
theorem dw_819 : decode code 819 = .ok (.laload, 1) := by decide +kernel
theorem dw_820 : decode code 820 = .ok (.iload 6, 2) := by decide +kernel
theorem dw_822 : decode code 822 = .ok (.i2l, 1) := by decide +kernel
theorem dw_823 : decode code 823 = .ok (.lcmp, 1) := by decide +kernel
theorem dw_824 : decode code 824 = .ok (.ifCond .eq 5, 3) := by decide +kernel
theorem dw_827 : decode code 827 = .ok (.iconst 0, 1) := by decide +kernel
theorem dw_828 : decode code 828 = .ok (.ireturn, 1) := by decide +kernel
theorem dw_829 : decode code 829 = .ok (.goto 938, 3) := by decide +kernel
theorem dw_832 : decode code 832 = .ok (.aload_n 1, 1) := by decide +kernel
theorem dw_833 : decode code 833 = .ok (.aload_n 0, 1) := by decide +kernel
theorem dw_834 : decode code 834 = .ok (.iload 4, 2) := by decide +kernel
theorem dw_836 : decode code 836 = .ok (.iconst 1, 1) := by decide +kernel
theorem dw_837 : decode code 837 = .ok (.iadd, 1) := by decide +kernel
theorem dw_838 : decode code 838 = .ok (.iaload, 1) := by decide +kernel
theorem dw_839 : decode code 839 = .ok (.aload_n 0, 1) := by decide +kernel
theorem dw_840 : decode code 840 = .ok (.iload 4, 2) := by decide +kernel
theorem dw_842 : decode code 842 = .ok (.iconst 2, 1) := by decide +kernel
theorem dw_843 : decode code 843 = .ok (.iadd, 1) := by decide +kernel
theorem dw_844 : decode code 844 = .ok (.iaload, 1) := by decide +kernel
theorem dw_845 : decode code 845 = .ok (.aload_n 3, 1) := by decide +kernel
theorem dw_846 : decode code 846 = .ok (.invokestatic 144, 3) := by decide +kernel
theorem dw_849 : decode code 849 = .ok (.istore 5, 2) := by decide +kernel
theorem dw_851 : decode code 851 = .ok (.aload_n 2, 1) := by decide +kernel
theorem dw_852 : decode code 852 = .ok (.aload_n 0, 1) := by decide +kernel
theorem dw_853 : decode code 853 = .ok (.iload 4, 2) := by decide +kernel
theorem dw_855 : decode code 855 = .ok (.iconst 1, 1) := by decide +kernel
theorem dw_856 : decode code 856 = .ok (.iadd, 1) := by decide +kernel
theorem dw_857 : decode code 857 = .ok (.iaload, 1) := by decide +kernel
theorem dw_858 : decode code 858 = .ok (.aload_n 0, 1) := by decide +kernel
theorem dw_859 : decode code 859 = .ok (.iload 4, 2) := by decide +kernel
theorem dw_861 : decode code 861 = .ok (.iconst 2, 1) := by decide +kernel
theorem dw_862 : decode code 862 = .ok (.iadd, 1) := by decide +kernel
theorem dw_863 : decode code 863 = .ok (.iaload, 1) := by decide +kernel
theorem dw_864 : decode code 864 = .ok (.invokevirtual 146, 3) := by decide +kernel
theorem dw_867 : decode code 867 = .ok (.istore 6, 2) := by decide +kernel
theorem dw_869 : decode code 869 = .ok (.aload_n 2, 1) := by decide +kernel
theorem dw_870 : decode code 870 = .ok (.invokevirtual 106, 3) := by decide +kernel
theorem dw_873 : decode code 873 = .ok (.iload 5, 2) := by decide +kernel
theorem dw_875 : decode code 875 = .ok (.if_icmp .eq 5, 3) := by decide +kernel
theorem dw_878 : decode code 878 = .ok (.iconst 0, 1) := by decide +kernel
theorem dw_879 : decode code 879 = .ok (.ireturn, 1) := by decide +kernel
theorem dw_880 : decode code 880 = .ok (.iload 5, 2) := by decide +kernel
theorem dw_882 : decode code 882 = .ok (.ifCond .ne 22, 3) := by decide +kernel
theorem dw_885 : decode code 885 = .ok (.aload_n 3, 1) := by decide +kernel
theorem dw_886 : decode code 886 = .ok (.iconst 0, 1) := by decide +kernel
theorem dw_887 : decode code 887 = .ok (.laload, 1) := by decide +kernel
theorem dw_888 : decode code 888 = .ok (.iload 6, 2) := by decide +kernel
theorem dw_890 : decode code 890 = .ok (.ifCond .eq 7, 3) := by decide +kernel
theorem dw_893 : decode code 893 = .ok (.lconst 1, 1) := by decide +kernel
theorem dw_894 : decode code 894 = .ok (.goto 4, 3) := by decide +kernel
theorem dw_897 : decode code 897 = .ok (.lconst 0, 1) := by decide +kernel
theorem dw_898 : decode code 898 = .ok (.lcmp, 1) := by decide +kernel
theorem dw_899 : decode code 899 = .ok (.ifCond .eq 5, 3) := by decide +kernel
