theorem dL_law_529 : decode cL_law 529 = .ok (.iconst 1, 1) := by decide +kernel
theorem dL_law_530 : decode cL_law 530 = .ok (.if_icmp .lt 76, 3) := by decide +kernel
theorem dL_law_533 : decode cL_law 533 = .ok (.aload_n 1, 1) := by decide +kernel
theorem dL_law_534 : decode cL_law 534 = .ok (.iload 8, 2) := by decide +kernel
theorem dL_law_536 : decode cL_law 536 = .ok (.invokevirtual 183, 3) := by decide +kernel
theorem dL_law_539 : decode cL_law 539 = .ok (.bipush 9, 2) := by decide +kernel
theorem dL_law_541 : decode cL_law 541 = .ok (.if_icmp .gt 65, 3) := by decide +kernel
theorem dL_law_544 : decode cL_law 544 = .ok (.aload_n 1, 1) := by decide +kernel
theorem dL_law_545 : decode cL_law 545 = .ok (.iload 8, 2) := by decide +kernel
theorem dL_law_547 : decode cL_law 547 = .ok (.invokevirtual 186, 3) := by decide +kernel
theorem dL_law_550 : decode cL_law 550 = .ok (.bipush 114, 2) := by decide +kernel
theorem dL_law_552 : decode cL_law 552 = .ok (.if_icmp .eq 25, 3) := by decide +kernel
theorem dL_law_555 : decode cL_law 555 = .ok (.aload_n 1, 1) := by decide +kernel
theorem dL_law_556 : decode cL_law 556 = .ok (.iload 8, 2) := by decide +kernel
theorem dL_law_558 : decode cL_law 558 = .ok (.invokevirtual 186, 3) := by decide +kernel
theorem dL_law_561 : decode cL_law 561 = .ok (.bipush 103, 2) := by decide +kernel
theorem dL_law_563 : decode cL_law 563 = .ok (.if_icmp .eq 14, 3) := by decide +kernel
theorem dL_law_566 : decode cL_law 566 = .ok (.aload_n 1, 1) := by decide +kernel
theorem dL_law_567 : decode cL_law 567 = .ok (.iload 8, 2) := by decide +kernel
theorem dL_law_569 : decode cL_law 569 = .ok (.invokevirtual 186, 3) := by decide +kernel
theorem dL_law_572 : decode cL_law 572 = .ok (.bipush 98, 2) := by decide +kernel
theorem dL_law_574 : decode cL_law 574 = .ok (.if_icmp .ne 32, 3) := by decide +kernel
theorem dL_law_577 : decode cL_law 577 = .ok (.iload 9, 2) := by decide +kernel
theorem dL_law_579 : decode cL_law 579 = .ok (.ifCond .ne 12, 3) := by decide +kernel
theorem dL_law_582 : decode cL_law 582 = .ok (.aload_n 1, 1) := by decide +kernel
theorem dL_law_583 : decode cL_law 583 = .ok (.iload 8, 2) := by decide +kernel
theorem dL_law_585 : decode cL_law 585 = .ok (.invokevirtual 189, 3) := by decide +kernel
theorem dL_law_588 : decode cL_law 588 = .ok (.ifCond .eq 18, 3) := by decide +kernel
theorem dL_law_591 : decode cL_law 591 = .ok (.iload 9, 2) := by decide +kernel
theorem dL_law_593 : decode cL_law 593 = .ok (.iconst 4, 1) := by decide +kernel
theorem dL_law_594 : decode cL_law 594 = .ok (.if_icmp .ne 14, 3) := by decide +kernel
theorem dL_law_597 : decode cL_law 597 = .ok (.aload_n 1, 1) := by decide +kernel
theorem dL_law_598 : decode cL_law 598 = .ok (.iload 8, 2) := by decide +kernel
theorem dL_law_600 : decode cL_law 600 = .ok (.invokevirtual 189, 3) := by decide +kernel
theorem dL_law_603 : decode cL_law 603 = .ok (.ifCond .eq 5, 3) := by decide +kernel
theorem dL_law_606 : decode cL_law 606 = .ok (.iconst 0, 1) := by decide +kernel
theorem dL_law_607 : decode cL_law 607 = .ok (.ireturn, 1) := by decide +kernel
theorem dL_law_608 : decode cL_law 608 = .ok (.iconst 0, 1) := by decide +kernel
theorem dL_law_609 : decode cL_law 609 = .ok (.istore 10, 2) := by decide +kernel
theorem dL_law_611 : decode cL_law 611 = .ok (.iload 10, 2) := by decide +kernel
theorem dL_law_613 : decode cL_law 613 = .ok (.iconst 5, 1) := by decide +kernel
theorem dL_law_614 : decode cL_law 614 = .ok (.if_icmp .ge 49, 3) := by decide +kernel
theorem dL_law_617 : decode cL_law 617 = .ok (.aload_n 1, 1) := by decide +kernel
theorem dL_law_618 : decode cL_law 618 = .ok (.iload 8, 2) := by decide +kernel
theorem dL_law_620 : decode cL_law 620 = .ok (.iload 10, 2) := by decide +kernel
theorem dL_law_622 : decode cL_law 622 = .ok (.invokevirtual 192, 3) := by decide +kernel
theorem dL_law_625 : decode cL_law 625 = .ok (.aload_n 1, 1) := by decide +kernel
theorem dL_law_626 : decode cL_law 626 = .ok (.iload 10, 2) := by decide +kernel
theorem dL_law_628 : decode cL_law 628 = .ok (.invokevirtual 120, 3) := by decide +kernel
theorem dL_law_631 : decode cL_law 631 = .ok (.aload_n 1, 1) := by decide +kernel
theorem dL_law_632 : decode cL_law 632 = .ok (.iload 8, 2) := by decide +kernel
theorem dL_law_634 : decode cL_law 634 = .ok (.invokevirtual 183, 3) := by decide +kernel
theorem dL_law_637 : decode cL_law 637 = .ok (.aload_n 1, 1) := by decide +kernel
theorem dL_law_638 : decode cL_law 638 = .ok (.iload 10, 2) := by decide +kernel
theorem dL_law_640 : decode cL_law 640 = .ok (.invokevirtual 123, 3) := by decide +kernel
theorem dL_law_643 : decode cL_law 643 = .ok (.imul, 1) := by decide +kernel
theorem dL_law_644 : decode cL_law 644 = .ok (.if_icmp .lt 7, 3) := by decide +kernel
theorem dL_law_647 : decode cL_law 647 = .ok (.iconst 1, 1) := by decide +kernel
theorem dL_law_648 : decode cL_law 648 = .ok (.goto 4, 3) := by decide +kernel
theorem dL_law_651 : decode cL_law 651 = .ok (.iconst 0, 1) := by decide +kernel
theorem dL_law_652 : decode cL_law 652 = .ok (.if_icmp .eq 5, 3) := by decide +kernel
theorem dL_law_655 : decode cL_law 655 = .ok (.iconst 0, 1) := by decide +kernel
theorem dL_law_656 : decode cL_law 656 = .ok (.ireturn, 1) := by decide +kernel
theorem dL_law_657 : decode cL_law 657 = .ok (.iinc 10 1, 3) := by decide +kernel
theorem dL_law_660 : decode cL_law 660 = .ok (.goto (-49), 3) := by decide +kernel
theorem dL_law_663 : decode cL_law 663 = .ok (.aload_n 1, 1) := by decide +kernel
theorem dL_law_664 : decode cL_law 664 = .ok (.aload_n 1, 1) := by decide +kernel
theorem dL_law_665 : decode cL_law 665 = .ok (.iload 8, 2) := by decide +kernel
theorem dL_law_667 : decode cL_law 667 = .ok (.invokevirtual 195, 3) := by decide +kernel
theorem dL_law_670 : decode cL_law 670 = .ok (.new 126, 3) := by decide +kernel
theorem dL_law_673 : decode cL_law 673 = .ok (.dup, 1) := by decide +kernel
theorem dL_law_674 : decode cL_law 674 = .ok (.invokespecial 128, 3) := by decide +kernel
theorem dL_law_677 : decode cL_law 677 = .ok (.ldc 118, 2) := by decide +kernel
theorem dL_law_679 : decode cL_law 679 = .ok (.invokevirtual 129, 3) := by decide +kernel
theorem dL_law_682 : decode cL_law 682 = .ok (.aload_n 1, 1) := by decide +kernel
theorem dL_law_683 : decode cL_law 683 = .ok (.iload 8, 2) := by decide +kernel
theorem dL_law_685 : decode cL_law 685 = .ok (.invokevirtual 186, 3) := by decide +kernel
theorem dL_law_688 : decode cL_law 688 = .ok (.invokevirtual 198, 3) := by decide +kernel
theorem dL_law_691 : decode cL_law 691 = .ok (.aload_n 1, 1) := by decide +kernel
theorem dL_law_692 : decode cL_law 692 = .ok (.iload 8, 2) := by decide +kernel
theorem dL_law_694 : decode cL_law 694 = .ok (.invokevirtual 183, 3) := by decide +kernel
theorem dL_law_697 : decode cL_law 697 = .ok (.invokevirtual 141, 3) := by decide +kernel
theorem dL_law_700 : decode cL_law 700 = .ok (.aload_n 1, 1) := by decide +kernel
theorem dL_law_701 : decode cL_law 701 = .ok (.iload 8, 2) := by decide +kernel
theorem dL_law_703 : decode cL_law 703 = .ok (.invokevirtual 189, 3) := by decide +kernel
theorem dL_law_706 : decode cL_law 706 = .ok (.ifCond .eq 8, 3) := by decide +kernel
theorem dL_law_709 : decode cL_law 709 = .ok (.ldc 201, 2) := by decide +kernel
theorem dL_law_711 : decode cL_law 711 = .ok (.goto 5, 3) := by decide +kernel
theorem dL_law_714 : decode cL_law 714 = .ok (.ldc 203, 2) := by decide +kernel
theorem dL_law_716 : decode cL_law 716 = .ok (.invokevirtual 129, 3) := by decide +kernel
theorem dL_law_719 : decode cL_law 719 = .ok (.iload 9, 2) := by decide +kernel
theorem dL_law_721 : decode cL_law 721 = .ok (.invokevirtual 141, 3) := by decide +kernel
theorem dL_law_724 : decode cL_law 724 = .ok (.invokevirtual 144, 3) := by decide +kernel
theorem dL_law_727 : decode cL_law 727 = .ok (.invokestatic 205, 3) := by decide +kernel
theorem dL_law_730 : decode cL_law 730 = .ok (.ifCond .ne 5, 3) := by decide +kernel
theorem dL_law_733 : decode cL_law 733 = .ok (.iconst 0, 1) := by decide +kernel
theorem dL_law_734 : decode cL_law 734 = .ok (.ireturn, 1) := by decide +kernel
theorem dL_law_735 : decode cL_law 735 = .ok (.iinc 8 1, 3) := by decide +kernel
theorem dL_law_738 : decode cL_law 738 = .ok (.goto (-239), 3) := by decide +kernel
theorem dL_law_741 : decode cL_law 741 = .ok (.iconst 0, 1) := by decide +kernel
theorem dL_law_742 : decode cL_law 742 = .ok (.istore 8, 2) := by decide +kernel
theorem dL_law_744 : decode cL_law 744 = .ok (.iload 8, 2) := by decide +kernel
theorem dL_law_746 : decode cL_law 746 = .ok (.iconst 3, 1) := by decide +kernel
theorem dL_law_747 : decode cL_law 747 = .ok (.if_icmp .ge 58, 3) := by decide +kernel
theorem dL_law_750 : decode cL_law 750 = .ok (.iconst 0, 1) := by decide +kernel
theorem dL_law_751 : decode cL_law 751 = .ok (.istore 9, 2) := by decide +kernel
theorem dL_law_753 : decode cL_law 753 = .ok (.iload 9, 2) := by decide +kernel
theorem dL_law_755 : decode cL_law 755 = .ok (.iload 4, 2) := by decide +kernel
theorem dL_law_757 : decode cL_law 757 = .ok (.if_icmp .ge 42, 3) := by decide +kernel
theorem dL_law_760 : decode cL_law 760 = .ok (.aload_n 1, 1) := by decide +kernel
theorem dL_law_761 : decode cL_law 761 = .ok (.iload 9, 2) := by decide +kernel
theorem dL_law_763 : decode cL_law 763 = .ok (.invokevirtual 186, 3) := by decide +kernel
theorem dL_law_766 : decode cL_law 766 = .ok (.iload 8, 2) := by decide +kernel
theorem dL_law_768 : decode cL_law 768 = .ok (.invokestatic 72, 3) := by decide +kernel
theorem dL_law_771 : decode cL_law 771 = .ok (.if_icmp .eq 6, 3) := by decide +kernel
theorem dL_law_774 : decode cL_law 774 = .ok (.goto 19, 3) := by decide +kernel
theorem dL_law_777 : decode cL_law 777 = .ok (.aload_n 1, 1) := by decide +kernel
theorem dL_law_778 : decode cL_law 778 = .ok (.iload 5, 2) := by decide +kernel
theorem dL_law_780 : decode cL_law 780 = .ok (.invokevirtual 52, 3) := by decide +kernel
theorem dL_law_783 : decode cL_law 783 = .ok (.iload 9, 2) := by decide +kernel
theorem dL_law_785 : decode cL_law 785 = .ok (.if_icmp .eq 5, 3) := by decide +kernel
theorem dL_law_788 : decode cL_law 788 = .ok (.iconst 0, 1) := by decide +kernel
theorem dL_law_789 : decode cL_law 789 = .ok (.ireturn, 1) := by decide +kernel
theorem dL_law_790 : decode cL_law 790 = .ok (.iinc 5 1, 3) := by decide +kernel
theorem dL_law_793 : decode cL_law 793 = .ok (.iinc 9 1, 3) := by decide +kernel
theorem dL_law_796 : decode cL_law 796 = .ok (.goto (-43), 3) := by decide +kernel
theorem dL_law_799 : decode cL_law 799 = .ok (.iinc 8 1, 3) := by decide +kernel
theorem dL_law_802 : decode cL_law 802 = .ok (.goto (-58), 3) := by decide +kernel
theorem dL_law_805 : decode cL_law 805 = .ok (.iconst 0, 1) := by decide +kernel
theorem dL_law_806 : decode cL_law 806 = .ok (.istore 8, 2) := by decide +kernel
theorem dL_law_808 : decode cL_law 808 = .ok (.iload 8, 2) := by decide +kernel
theorem dL_law_810 : decode cL_law 810 = .ok (.iconst 5, 1) := by decide +kernel
theorem dL_law_811 : decode cL_law 811 = .ok (.if_icmp .ge 45, 3) := by decide +kernel
theorem dL_law_814 : decode cL_law 814 = .ok (.aload_n 1, 1) := by decide +kernel
theorem dL_law_815 : decode cL_law 815 = .ok (.iload 8, 2) := by decide +kernel
theorem dL_law_817 : decode cL_law 817 = .ok (.invokevirtual 209, 3) := by decide +kernel
theorem dL_law_820 : decode cL_law 820 = .ok (.aload 6, 2) := by decide +kernel
theorem dL_law_822 : decode cL_law 822 = .ok (.iload 8, 2) := by decide +kernel
theorem dL_law_824 : decode cL_law 824 = .ok (.iaload, 1) := by decide +kernel
theorem dL_law_825 : decode cL_law 825 = .ok (.if_icmp .ne 23, 3) := by decide +kernel
theorem dL_law_828 : decode cL_law 828 = .ok (.iload 8, 2) := by decide +kernel
theorem dL_law_830 : decode cL_law 830 = .ok (.ifCond .le 20, 3) := by decide +kernel
theorem dL_law_833 : decode cL_law 833 = .ok (.iload 8, 2) := by decide +kernel
theorem dL_law_835 : decode cL_law 835 = .ok (.iconst 4, 1) := by decide +kernel
theorem dL_law_836 : decode cL_law 836 = .ok (.if_icmp .ge 14, 3) := by decide +kernel
theorem dL_law_839 : decode cL_law 839 = .ok (.aload 6, 2) := by decide +kernel
theorem dL_law_841 : decode cL_law 841 = .ok (.iload 8, 2) := by decide +kernel
theorem dL_law_843 : decode cL_law 843 = .ok (.iaload, 1) := by decide +kernel
theorem dL_law_844 : decode cL_law 844 = .ok (.iconst 2, 1) := by decide +kernel
theorem dL_law_845 : decode cL_law 845 = .ok (.if_icmp .le 5, 3) := by decide +kernel
theorem dL_law_848 : decode cL_law 848 = .ok (.iconst 0, 1) := by decide +kernel
theorem dL_law_849 : decode cL_law 849 = .ok (.ireturn, 1) := by decide +kernel
theorem dL_law_850 : decode cL_law 850 = .ok (.iinc 8 1, 3) := by decide +kernel
theorem dL_law_853 : decode cL_law 853 = .ok (.goto (-45), 3) := by decide +kernel
theorem dL_law_856 : decode cL_law 856 = .ok (.aload_n 1, 1) := by decide +kernel
theorem dL_law_857 : decode cL_law 857 = .ok (.invokevirtual 212, 3) := by decide +kernel
theorem dL_law_860 : decode cL_law 860 = .ok (.iload_n 3, 1) := by decide +kernel
theorem dL_law_861 : decode cL_law 861 = .ok (.if_icmp .ne 112, 3) := by decide +kernel
theorem dL_law_864 : decode cL_law 864 = .ok (.aload_n 1, 1) := by decide +kernel
theorem dL_law_865 : decode cL_law 865 = .ok (.invokevirtual 215, 3) := by decide +kernel
theorem dL_law_868 : decode cL_law 868 = .ok (.iload_n 3, 1) := by decide +kernel
theorem dL_law_869 : decode cL_law 869 = .ok (.if_icmp .ne 104, 3) := by decide +kernel
theorem dL_law_872 : decode cL_law 872 = .ok (.iload_n 3, 1) := by decide +kernel
theorem dL_law_873 : decode cL_law 873 = .ok (.sipush 684, 3) := by decide +kernel
theorem dL_law_876 : decode cL_law 876 = .ok (.aload_n 1, 1) := by decide +kernel
theorem dL_law_877 : decode cL_law 877 = .ok (.invokevirtual 218, 3) := by decide +kernel
theorem dL_law_880 : decode cL_law 880 = .ok (.iadd, 1) := by decide +kernel
theorem dL_law_881 : decode cL_law 881 = .ok (.aload_n 1, 1) := by decide +kernel
theorem dL_law_882 : decode cL_law 882 = .ok (.invokevirtual 221, 3) := by decide +kernel
theorem dL_law_885 : decode cL_law 885 = .ok (.isub, 1) := by decide +kernel
theorem dL_law_886 : decode cL_law 886 = .ok (.aload_n 1, 1) := by decide +kernel
theorem dL_law_887 : decode cL_law 887 = .ok (.invokevirtual 224, 3) := by decide +kernel
theorem dL_law_890 : decode cL_law 890 = .ok (.isub, 1) := by decide +kernel
theorem dL_law_891 : decode cL_law 891 = .ok (.if_icmp .ne 82, 3) := by decide +kernel
theorem dL_law_894 : decode cL_law 894 = .ok (.aload_n 1, 1) := by decide +kernel
theorem dL_law_895 : decode cL_law 895 = .ok (.invokevirtual 227, 3) := by decide +kernel
theorem dL_law_898 : decode cL_law 898 = .ok (.iload_n 3, 1) := by decide +kernel
theorem dL_law_899 : decode cL_law 899 = .ok (.i2f, 1) := by decide +kernel
theorem dL_law_900 : decode cL_law 900 = .ok (.ldc 231, 2) := by decide +kernel
theorem dL_law_902 : decode cL_law 902 = .ok (.fdiv, 1) := by decide +kernel
theorem dL_law_903 : decode cL_law 903 = .ok (.fcmp .l, 1) := by decide +kernel
theorem dL_law_904 : decode cL_law 904 = .ok (.ifCond .ne 69, 3) := by decide +kernel
theorem dL_law_907 : decode cL_law 907 = .ok (.aload_n 1, 1) := by decide +kernel
theorem dL_law_908 : decode cL_law 908 = .ok (.invokevirtual 232, 3) := by decide +kernel
theorem dL_law_911 : decode cL_law 911 = .ok (.ifCond .eq 62, 3) := by decide +kernel
theorem dL_law_914 : decode cL_law 914 = .ok (.aload_n 1, 1) := by decide +kernel
theorem dL_law_915 : decode cL_law 915 = .ok (.aload_n 1, 1) := by decide +kernel
theorem dL_law_916 : decode cL_law 916 = .ok (.invokevirtual 236, 3) := by decide +kernel
theorem dL_law_919 : decode cL_law 919 = .ok (.aload 7, 2) := by decide +kernel
theorem dL_law_921 : decode cL_law 921 = .ok (.invokestatic 205, 3) := by decide +kernel
theorem dL_law_924 : decode cL_law 924 = .ok (.ifCond .eq 49, 3) := by decide +kernel
theorem dL_law_927 : decode cL_law 927 = .ok (.aload_n 1, 1) := by decide +kernel
theorem dL_law_928 : decode cL_law 928 = .ok (.iload 4, 2) := by decide +kernel
theorem dL_law_930 : decode cL_law 930 = .ok (.invokestatic 239, 3) := by decide +kernel
theorem dL_law_933 : decode cL_law 933 = .ok (.sipush (-30000), 3) := by decide +kernel
theorem dL_law_936 : decode cL_law 936 = .ok (.if_icmp .ne 37, 3) := by decide +kernel
theorem dL_law_939 : decode cL_law 939 = .ok (.aload_n 1, 1) := by decide +kernel
theorem dL_law_940 : decode cL_law 940 = .ok (.iconst 5, 1) := by decide +kernel
theorem dL_law_941 : decode cL_law 941 = .ok (.invokestatic 241, 3) := by decide +kernel
theorem dL_law_944 : decode cL_law 944 = .ok (.sipush (-30000), 3) := by decide +kernel
theorem dL_law_947 : decode cL_law 947 = .ok (.if_icmp .ne 26, 3) := by decide +kernel
theorem dL_law_950 : decode cL_law 950 = .ok (.aload_n 1, 1) := by decide +kernel
theorem dL_law_951 : decode cL_law 951 = .ok (.aload_n 1, 1) := by decide +kernel
theorem dL_law_952 : decode cL_law 952 = .ok (.invokevirtual 243, 3) := by decide +kernel
theorem dL_law_955 : decode cL_law 955 = .ok (.invokestatic 246, 3) := by decide +kernel
theorem dL_law_958 : decode cL_law 958 = .ok (.sipush (-30000), 3) := by decide +kernel
theorem dL_law_961 : decode cL_law 961 = .ok (.if_icmp .ne 12, 3) := by decide +kernel
theorem dL_law_964 : decode cL_law 964 = .ok (.aload_n 1, 1) := by decide +kernel
theorem dL_law_965 : decode cL_law 965 = .ok (.invokevirtual 243, 3) := by decide +kernel
theorem dL_law_968 : decode cL_law 968 = .ok (.bipush 8, 2) := by decide +kernel
theorem dL_law_970 : decode cL_law 970 = .ok (.if_icmp .le 5, 3) := by decide +kernel
theorem dL_law_973 : decode cL_law 973 = .ok (.iconst 0, 1) := by decide +kernel
theorem dL_law_974 : decode cL_law 974 = .ok (.ireturn, 1) := by decide +kernel
theorem dL_law_975 : decode cL_law 975 = .ok (.iconst 0, 1) := by decide +kernel
theorem dL_law_976 : decode cL_law 976 = .ok (.istore 8, 2) := by decide +kernel
theorem dL_law_978 : decode cL_law 978 = .ok (.iload 8, 2) := by decide +kernel
theorem dL_law_980 : decode cL_law 980 = .ok (.aload_n 1, 1) := by decide +kernel
theorem dL_law_981 : decode cL_law 981 = .ok (.invokevirtual 243, 3) := by decide +kernel
theorem dL_law_984 : decode cL_law 984 = .ok (.if_icmp .ge 91, 3) := by decide +kernel
theorem dL_law_987 : decode cL_law 987 = .ok (.aload_n 1, 1) := by decide +kernel
theorem dL_law_988 : decode cL_law 988 = .ok (.iload 8, 2) := by decide +kernel
theorem dL_law_990 : decode cL_law 990 = .ok (.invokestatic 246, 3) := by decide +kernel
theorem dL_law_993 : decode cL_law 993 = .ok (.istore 9, 2) := by decide +kernel
theorem dL_law_995 : decode cL_law 995 = .ok (.aload_n 1, 1) := by decide +kernel
theorem dL_law_996 : decode cL_law 996 = .ok (.iload 8, 2) := by decide +kernel
theorem dL_law_998 : decode cL_law 998 = .ok (.invokestatic 248, 3) := by decide +kernel
theorem dL_law_1001 : decode cL_law 1001 = .ok (.istore 10, 2) := by decide +kernel
theorem dL_law_1003 : decode cL_law 1003 = .ok (.iload 9, 2) := by decide +kernel
theorem dL_law_1005 : decode cL_law 1005 = .ok (.bipush 112, 2) := by decide +kernel
theorem dL_law_1007 : decode cL_law 1007 = .ok (.if_icmp .ne 17, 3) := by decide +kernel
theorem dL_law_1010 : decode cL_law 1010 = .ok (.iload 10, 2) := by decide +kernel
theorem dL_law_1012 : decode cL_law 1012 = .ok (.ifCond .lt 55, 3) := by decide +kernel
theorem dL_law_1015 : decode cL_law 1015 = .ok (.iload 10, 2) := by decide +kernel
theorem dL_law_1017 : decode cL_law 1017 = .ok (.iconst 3, 1) := by decide +kernel
theorem dL_law_1018 : decode cL_law 1018 = .ok (.if_icmp .le 51, 3) := by decide +kernel
theorem dL_law_1021 : decode cL_law 1021 = .ok (.goto 46, 3) := by decide +kernel
theorem dL_law_1024 : decode cL_law 1024 = .ok (.iload 9, 2) := by decide +kernel
theorem dL_law_1026 : decode cL_law 1026 = .ok (.bipush 108, 2) := by decide +kernel
theorem dL_law_1028 : decode cL_law 1028 = .ok (.if_icmp .ne 19, 3) := by decide +kernel
theorem dL_law_1031 : decode cL_law 1031 = .ok (.iload 10, 2) := by decide +kernel
theorem dL_law_1033 : decode cL_law 1033 = .ok (.iconst 1, 1) := by decide +kernel
theorem dL_law_1034 : decode cL_law 1034 = .ok (.if_icmp .lt 33, 3) := by decide +kernel
theorem dL_law_1037 : decode cL_law 1037 = .ok (.iload 10, 2) := by decide +kernel
theorem dL_law_1039 : decode cL_law 1039 = .ok (.bipush 9, 2) := by decide +kernel
theorem dL_law_1041 : decode cL_law 1041 = .ok (.if_icmp .le 28, 3) := by decide +kernel
theorem dL_law_1044 : decode cL_law 1044 = .ok (.goto 23, 3) := by decide +kernel
theorem dL_law_1047 : decode cL_law 1047 = .ok (.iload 9, 2) := by decide +kernel
theorem dL_law_1049 : decode cL_law 1049 = .ok (.bipush 115, 2) := by decide +kernel
theorem dL_law_1051 : decode cL_law 1051 = .ok (.if_icmp .ne 16, 3) := by decide +kernel
theorem dL_law_1054 : decode cL_law 1054 = .ok (.iload 10, 2) := by decide +kernel
theorem dL_law_1056 : decode cL_law 1056 = .ok (.iconst 1, 1) := by decide +kernel
theorem dL_law_1057 : decode cL_law 1057 = .ok (.if_icmp .lt 10, 3) := by decide +kernel
theorem dL_law_1060 : decode cL_law 1060 = .ok (.iload 10, 2) := by decide +kernel
theorem dL_law_1062 : decode cL_law 1062 = .ok (.bipush 9, 2) := by decide +kernel
theorem dL_law_1064 : decode cL_law 1064 = .ok (.if_icmp .le 5, 3) := by decide +kernel
theorem dL_law_1067 : decode cL_law 1067 = .ok (.iconst 0, 1) := by decide +kernel
theorem dL_law_1068 : decode cL_law 1068 = .ok (.ireturn, 1) := by decide +kernel
theorem dL_law_1069 : decode cL_law 1069 = .ok (.iinc 8 1, 3) := by decide +kernel
theorem dL_law_1072 : decode cL_law 1072 = .ok (.goto (-94), 3) := by decide +kernel
theorem dL_law_1075 : decode cL_law 1075 = .ok (.aload_n 1, 1) := by decide +kernel
theorem dL_law_1076 : decode cL_law 1076 = .ok (.aload_n 0, 1) := by decide +kernel
theorem dL_law_1077 : decode cL_law 1077 = .ok (.bipush 80, 2) := by decide +kernel
theorem dL_law_1079 : decode cL_law 1079 = .ok (.iconst 3, 1) := by decide +kernel
theorem dL_law_1080 : decode cL_law 1080 = .ok (.iload_n 2, 1) := by decide +kernel
theorem dL_law_1081 : decode cL_law 1081 = .ok (.imul, 1) := by decide +kernel
theorem dL_law_1082 : decode cL_law 1082 = .ok (.iadd, 1) := by decide +kernel
theorem dL_law_1083 : decode cL_law 1083 = .ok (.invokestatic 78, 3) := by decide +kernel
theorem dL_law_1086 : decode cL_law 1086 = .ok (.iinc 2 1, 3) := by decide +kernel
theorem dL_law_1089 : decode cL_law 1089 = .ok (.goto (-1074), 3) := by decide +kernel
theorem dL_law_1092 : decode cL_law 1092 = .ok (.iconst 1, 1) := by decide +kernel
theorem dL_law_1093 : decode cL_law 1093 = .ok (.ireturn, 1) := by decide +kernel
