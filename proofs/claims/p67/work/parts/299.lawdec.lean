/-! the law's instructions -/
theorem dL_law_576 : decode cL_law 576 = .ok (.aload 14, 2) := by decide +kernel
theorem dL_law_578 : decode cL_law 578 = .ok (.iload 21, 2) := by decide +kernel
theorem dL_law_580 : decode cL_law 580 = .ok (.iaload, 1) := by decide +kernel
theorem dL_law_581 : decode cL_law 581 = .ok (.iload 22, 2) := by decide +kernel
theorem dL_law_583 : decode cL_law 583 = .ok (.if_icmp .eq 6, 3) := by decide +kernel
theorem dL_law_586 : decode cL_law 586 = .ok (.goto 158, 3) := by decide +kernel
theorem dL_law_589 : decode cL_law 589 = .ok (.aload 16, 2) := by decide +kernel
theorem dL_law_591 : decode cL_law 591 = .ok (.iload 21, 2) := by decide +kernel
theorem dL_law_593 : decode cL_law 593 = .ok (.iaload, 1) := by decide +kernel
theorem dL_law_594 : decode cL_law 594 = .ok (.ifCond .lt 71, 3) := by decide +kernel
theorem dL_law_597 : decode cL_law 597 = .ok (.aload 11, 2) := by decide +kernel
theorem dL_law_599 : decode cL_law 599 = .ok (.aload 16, 2) := by decide +kernel
theorem dL_law_601 : decode cL_law 601 = .ok (.iload 21, 2) := by decide +kernel
theorem dL_law_603 : decode cL_law 603 = .ok (.iaload, 1) := by decide +kernel
theorem dL_law_604 : decode cL_law 604 = .ok (.dup2, 1) := by decide +kernel
theorem dL_law_605 : decode cL_law 605 = .ok (.iaload, 1) := by decide +kernel
theorem dL_law_606 : decode cL_law 606 = .ok (.iconst 1, 1) := by decide +kernel
theorem dL_law_607 : decode cL_law 607 = .ok (.iadd, 1) := by decide +kernel
theorem dL_law_608 : decode cL_law 608 = .ok (.iastore, 1) := by decide +kernel
theorem dL_law_609 : decode cL_law 609 = .ok (.aload 13, 2) := by decide +kernel
theorem dL_law_611 : decode cL_law 611 = .ok (.aload 16, 2) := by decide +kernel
theorem dL_law_613 : decode cL_law 613 = .ok (.iload 21, 2) := by decide +kernel
theorem dL_law_615 : decode cL_law 615 = .ok (.iaload, 1) := by decide +kernel
theorem dL_law_616 : decode cL_law 616 = .ok (.dup2, 1) := by decide +kernel
theorem dL_law_617 : decode cL_law 617 = .ok (.iaload, 1) := by decide +kernel
theorem dL_law_618 : decode cL_law 618 = .ok (.aload 17, 2) := by decide +kernel
theorem dL_law_620 : decode cL_law 620 = .ok (.iload 21, 2) := by decide +kernel
theorem dL_law_622 : decode cL_law 622 = .ok (.iaload, 1) := by decide +kernel
theorem dL_law_623 : decode cL_law 623 = .ok (.iadd, 1) := by decide +kernel
theorem dL_law_624 : decode cL_law 624 = .ok (.iastore, 1) := by decide +kernel
theorem dL_law_625 : decode cL_law 625 = .ok (.aload 15, 2) := by decide +kernel
theorem dL_law_627 : decode cL_law 627 = .ok (.iload 21, 2) := by decide +kernel
theorem dL_law_629 : decode cL_law 629 = .ok (.dup2, 1) := by decide +kernel
theorem dL_law_630 : decode cL_law 630 = .ok (.iaload, 1) := by decide +kernel
theorem dL_law_631 : decode cL_law 631 = .ok (.aload 17, 2) := by decide +kernel
theorem dL_law_633 : decode cL_law 633 = .ok (.iload 21, 2) := by decide +kernel
theorem dL_law_635 : decode cL_law 635 = .ok (.iaload, 1) := by decide +kernel
theorem dL_law_636 : decode cL_law 636 = .ok (.isub, 1) := by decide +kernel
theorem dL_law_637 : decode cL_law 637 = .ok (.iastore, 1) := by decide +kernel
theorem dL_law_638 : decode cL_law 638 = .ok (.aload 19, 2) := by decide +kernel
theorem dL_law_640 : decode cL_law 640 = .ok (.iload 21, 2) := by decide +kernel
theorem dL_law_642 : decode cL_law 642 = .ok (.dup2, 1) := by decide +kernel
theorem dL_law_643 : decode cL_law 643 = .ok (.iaload, 1) := by decide +kernel
theorem dL_law_644 : decode cL_law 644 = .ok (.iconst 1, 1) := by decide +kernel
theorem dL_law_645 : decode cL_law 645 = .ok (.iadd, 1) := by decide +kernel
theorem dL_law_646 : decode cL_law 646 = .ok (.iastore, 1) := by decide +kernel
theorem dL_law_647 : decode cL_law 647 = .ok (.iinc 20 1, 3) := by decide +kernel
theorem dL_law_650 : decode cL_law 650 = .ok (.aload 16, 2) := by decide +kernel
theorem dL_law_652 : decode cL_law 652 = .ok (.iload 21, 2) := by decide +kernel
theorem dL_law_654 : decode cL_law 654 = .ok (.iconst (-1), 1) := by decide +kernel
theorem dL_law_655 : decode cL_law 655 = .ok (.iastore, 1) := by decide +kernel
theorem dL_law_656 : decode cL_law 656 = .ok (.aload 17, 2) := by decide +kernel
theorem dL_law_658 : decode cL_law 658 = .ok (.iload 21, 2) := by decide +kernel
theorem dL_law_660 : decode cL_law 660 = .ok (.iconst 0, 1) := by decide +kernel
theorem dL_law_661 : decode cL_law 661 = .ok (.iastore, 1) := by decide +kernel
theorem dL_law_662 : decode cL_law 662 = .ok (.goto 82, 3) := by decide +kernel
theorem dL_law_665 : decode cL_law 665 = .ok (.aload_n 1, 1) := by decide +kernel
theorem dL_law_666 : decode cL_law 666 = .ok (.iload 23, 2) := by decide +kernel
theorem dL_law_668 : decode cL_law 668 = .ok (.invokevirtual 183, 3) := by decide +kernel
theorem dL_law_671 : decode cL_law 671 = .ok (.aload_n 1, 1) := by decide +kernel
theorem dL_law_672 : decode cL_law 672 = .ok (.iload 21, 2) := by decide +kernel
theorem dL_law_674 : decode cL_law 674 = .ok (.invokevirtual 186, 3) := by decide +kernel
theorem dL_law_677 : decode cL_law 677 = .ok (.if_icmp .ne 55, 3) := by decide +kernel
theorem dL_law_680 : decode cL_law 680 = .ok (.aload 10, 2) := by decide +kernel
theorem dL_law_682 : decode cL_law 682 = .ok (.iload 23, 2) := by decide +kernel
theorem dL_law_684 : decode cL_law 684 = .ok (.iaload, 1) := by decide +kernel
theorem dL_law_685 : decode cL_law 685 = .ok (.ifCond .le 47, 3) := by decide +kernel
theorem dL_law_688 : decode cL_law 688 = .ok (.aload_n 1, 1) := by decide +kernel
theorem dL_law_689 : decode cL_law 689 = .ok (.iload 23, 2) := by decide +kernel
theorem dL_law_691 : decode cL_law 691 = .ok (.invokevirtual 189, 3) := by decide +kernel
theorem dL_law_694 : decode cL_law 694 = .ok (.aload 15, 2) := by decide +kernel
theorem dL_law_696 : decode cL_law 696 = .ok (.iload 21, 2) := by decide +kernel
theorem dL_law_698 : decode cL_law 698 = .ok (.iaload, 1) := by decide +kernel
theorem dL_law_699 : decode cL_law 699 = .ok (.if_icmp .gt 33, 3) := by decide +kernel
theorem dL_law_702 : decode cL_law 702 = .ok (.aload 10, 2) := by decide +kernel
theorem dL_law_704 : decode cL_law 704 = .ok (.iload 23, 2) := by decide +kernel
theorem dL_law_706 : decode cL_law 706 = .ok (.dup2, 1) := by decide +kernel
theorem dL_law_707 : decode cL_law 707 = .ok (.iaload, 1) := by decide +kernel
theorem dL_law_708 : decode cL_law 708 = .ok (.iconst 1, 1) := by decide +kernel
theorem dL_law_709 : decode cL_law 709 = .ok (.isub, 1) := by decide +kernel
theorem dL_law_710 : decode cL_law 710 = .ok (.iastore, 1) := by decide +kernel
theorem dL_law_711 : decode cL_law 711 = .ok (.aload 16, 2) := by decide +kernel
theorem dL_law_713 : decode cL_law 713 = .ok (.iload 21, 2) := by decide +kernel
theorem dL_law_715 : decode cL_law 715 = .ok (.iload 23, 2) := by decide +kernel
theorem dL_law_717 : decode cL_law 717 = .ok (.iastore, 1) := by decide +kernel
theorem dL_law_718 : decode cL_law 718 = .ok (.aload 17, 2) := by decide +kernel
theorem dL_law_720 : decode cL_law 720 = .ok (.iload 21, 2) := by decide +kernel
theorem dL_law_722 : decode cL_law 722 = .ok (.aload_n 1, 1) := by decide +kernel
theorem dL_law_723 : decode cL_law 723 = .ok (.iload 23, 2) := by decide +kernel
theorem dL_law_725 : decode cL_law 725 = .ok (.invokevirtual 189, 3) := by decide +kernel
theorem dL_law_728 : decode cL_law 728 = .ok (.iastore, 1) := by decide +kernel
theorem dL_law_729 : decode cL_law 729 = .ok (.goto 15, 3) := by decide +kernel
theorem dL_law_732 : decode cL_law 732 = .ok (.aload 18, 2) := by decide +kernel
theorem dL_law_734 : decode cL_law 734 = .ok (.iload 21, 2) := by decide +kernel
theorem dL_law_736 : decode cL_law 736 = .ok (.dup2, 1) := by decide +kernel
theorem dL_law_737 : decode cL_law 737 = .ok (.iaload, 1) := by decide +kernel
theorem dL_law_738 : decode cL_law 738 = .ok (.iconst 1, 1) := by decide +kernel
theorem dL_law_739 : decode cL_law 739 = .ok (.iload 23, 2) := by decide +kernel
theorem dL_law_741 : decode cL_law 741 = .ok (.ishl, 1) := by decide +kernel
theorem dL_law_742 : decode cL_law 742 = .ok (.ior, 1) := by decide +kernel
theorem dL_law_743 : decode cL_law 743 = .ok (.iastore, 1) := by decide +kernel
theorem dL_law_744 : decode cL_law 744 = .ok (.iinc 21 1, 3) := by decide +kernel
theorem dL_law_747 : decode cL_law 747 = .ok (.goto (-349), 3) := by decide +kernel
theorem dL_law_750 : decode cL_law 750 = .ok (.iconst 0, 1) := by decide +kernel
theorem dL_law_751 : decode cL_law 751 = .ok (.istore 21, 2) := by decide +kernel
theorem dL_law_753 : decode cL_law 753 = .ok (.iload 21, 2) := by decide +kernel
theorem dL_law_755 : decode cL_law 755 = .ok (.iload_n 3, 1) := by decide +kernel
theorem dL_law_756 : decode cL_law 756 = .ok (.if_icmp .ge 57, 3) := by decide +kernel
theorem dL_law_759 : decode cL_law 759 = .ok (.iload 6, 2) := by decide +kernel
theorem dL_law_761 : decode cL_law 761 = .ok (.ifCond .eq 52, 3) := by decide +kernel
theorem dL_law_764 : decode cL_law 764 = .ok (.aload 10, 2) := by decide +kernel
theorem dL_law_766 : decode cL_law 766 = .ok (.iload 21, 2) := by decide +kernel
theorem dL_law_768 : decode cL_law 768 = .ok (.iaload, 1) := by decide +kernel
theorem dL_law_769 : decode cL_law 769 = .ok (.ifCond .eq 38, 3) := by decide +kernel
theorem dL_law_772 : decode cL_law 772 = .ok (.iload 5, 2) := by decide +kernel
theorem dL_law_774 : decode cL_law 774 = .ok (.aload_n 1, 1) := by decide +kernel
theorem dL_law_775 : decode cL_law 775 = .ok (.iload 21, 2) := by decide +kernel
theorem dL_law_777 : decode cL_law 777 = .ok (.invokevirtual 169, 3) := by decide +kernel
theorem dL_law_780 : decode cL_law 780 = .ok (.invokestatic 192, 3) := by decide +kernel
theorem dL_law_783 : decode cL_law 783 = .ok (.if_icmp .gt 6, 3) := by decide +kernel
theorem dL_law_786 : decode cL_law 786 = .ok (.goto 21, 3) := by decide +kernel
theorem dL_law_789 : decode cL_law 789 = .ok (.aload 10, 2) := by decide +kernel
theorem dL_law_791 : decode cL_law 791 = .ok (.iload 21, 2) := by decide +kernel
theorem dL_law_793 : decode cL_law 793 = .ok (.dup2, 1) := by decide +kernel
theorem dL_law_794 : decode cL_law 794 = .ok (.iaload, 1) := by decide +kernel
theorem dL_law_795 : decode cL_law 795 = .ok (.iconst 1, 1) := by decide +kernel
theorem dL_law_796 : decode cL_law 796 = .ok (.isub, 1) := by decide +kernel
theorem dL_law_797 : decode cL_law 797 = .ok (.iastore, 1) := by decide +kernel
theorem dL_law_798 : decode cL_law 798 = .ok (.aload 12, 2) := by decide +kernel
theorem dL_law_800 : decode cL_law 800 = .ok (.iload 21, 2) := by decide +kernel
theorem dL_law_802 : decode cL_law 802 = .ok (.dup2, 1) := by decide +kernel
theorem dL_law_803 : decode cL_law 803 = .ok (.iaload, 1) := by decide +kernel
theorem dL_law_804 : decode cL_law 804 = .ok (.iconst 1, 1) := by decide +kernel
theorem dL_law_805 : decode cL_law 805 = .ok (.iadd, 1) := by decide +kernel
theorem dL_law_806 : decode cL_law 806 = .ok (.iastore, 1) := by decide +kernel
theorem dL_law_807 : decode cL_law 807 = .ok (.iinc 21 1, 3) := by decide +kernel
theorem dL_law_810 : decode cL_law 810 = .ok (.goto (-57), 3) := by decide +kernel
theorem dL_law_813 : decode cL_law 813 = .ok (.iload 6, 2) := by decide +kernel
theorem dL_law_815 : decode cL_law 815 = .ok (.ifCond .eq 6, 3) := by decide +kernel
theorem dL_law_818 : decode cL_law 818 = .ok (.iinc 8 1, 3) := by decide +kernel
theorem dL_law_821 : decode cL_law 821 = .ok (.aload_n 1, 1) := by decide +kernel
theorem dL_law_822 : decode cL_law 822 = .ok (.invokevirtual 109, 3) := by decide +kernel
theorem dL_law_825 : decode cL_law 825 = .ok (.istore 21, 2) := by decide +kernel
theorem dL_law_827 : decode cL_law 827 = .ok (.aload_n 1, 1) := by decide +kernel
theorem dL_law_828 : decode cL_law 828 = .ok (.iconst 1, 1) := by decide +kernel
theorem dL_law_829 : decode cL_law 829 = .ok (.invokevirtual 102, 3) := by decide +kernel
theorem dL_law_832 : decode cL_law 832 = .ok (.iload 20, 2) := by decide +kernel
theorem dL_law_834 : decode cL_law 834 = .ok (.if_icmp .ne 50, 3) := by decide +kernel
theorem dL_law_837 : decode cL_law 837 = .ok (.aload_n 1, 1) := by decide +kernel
theorem dL_law_838 : decode cL_law 838 = .ok (.invokevirtual 109, 3) := by decide +kernel
theorem dL_law_841 : decode cL_law 841 = .ok (.iload 21, 2) := by decide +kernel
theorem dL_law_843 : decode cL_law 843 = .ok (.iconst 1, 1) := by decide +kernel
theorem dL_law_844 : decode cL_law 844 = .ok (.iadd, 1) := by decide +kernel
theorem dL_law_845 : decode cL_law 845 = .ok (.if_icmp .ne 39, 3) := by decide +kernel
theorem dL_law_848 : decode cL_law 848 = .ok (.aload_n 1, 1) := by decide +kernel
theorem dL_law_849 : decode cL_law 849 = .ok (.invokevirtual 115, 3) := by decide +kernel
theorem dL_law_852 : decode cL_law 852 = .ok (.iload 6, 2) := by decide +kernel
theorem dL_law_854 : decode cL_law 854 = .ok (.if_icmp .ne 30, 3) := by decide +kernel
theorem dL_law_857 : decode cL_law 857 = .ok (.aload_n 1, 1) := by decide +kernel
theorem dL_law_858 : decode cL_law 858 = .ok (.invokevirtual 119, 3) := by decide +kernel
theorem dL_law_861 : decode cL_law 861 = .ok (.iload 7, 2) := by decide +kernel
theorem dL_law_863 : decode cL_law 863 = .ok (.if_icmp .ne 21, 3) := by decide +kernel
theorem dL_law_866 : decode cL_law 866 = .ok (.aload_n 1, 1) := by decide +kernel
theorem dL_law_867 : decode cL_law 867 = .ok (.invokevirtual 125, 3) := by decide +kernel
theorem dL_law_870 : decode cL_law 870 = .ok (.iload 8, 2) := by decide +kernel
theorem dL_law_872 : decode cL_law 872 = .ok (.if_icmp .ne 12, 3) := by decide +kernel
theorem dL_law_875 : decode cL_law 875 = .ok (.aload_n 1, 1) := by decide +kernel
theorem dL_law_876 : decode cL_law 876 = .ok (.invokevirtual 128, 3) := by decide +kernel
theorem dL_law_879 : decode cL_law 879 = .ok (.iload 9, 2) := by decide +kernel
theorem dL_law_881 : decode cL_law 881 = .ok (.if_icmp .eq 5, 3) := by decide +kernel
theorem dL_law_884 : decode cL_law 884 = .ok (.iconst 0, 1) := by decide +kernel
theorem dL_law_885 : decode cL_law 885 = .ok (.ireturn, 1) := by decide +kernel
theorem dL_law_886 : decode cL_law 886 = .ok (.iconst 0, 1) := by decide +kernel
theorem dL_law_887 : decode cL_law 887 = .ok (.istore 22, 2) := by decide +kernel
theorem dL_law_889 : decode cL_law 889 = .ok (.iload 22, 2) := by decide +kernel
theorem dL_law_891 : decode cL_law 891 = .ok (.iload_n 3, 1) := by decide +kernel
theorem dL_law_892 : decode cL_law 892 = .ok (.if_icmp .ge 67, 3) := by decide +kernel
theorem dL_law_895 : decode cL_law 895 = .ok (.aload_n 1, 1) := by decide +kernel
theorem dL_law_896 : decode cL_law 896 = .ok (.iload 22, 2) := by decide +kernel
theorem dL_law_898 : decode cL_law 898 = .ok (.invokevirtual 83, 3) := by decide +kernel
theorem dL_law_901 : decode cL_law 901 = .ok (.aload 10, 2) := by decide +kernel
theorem dL_law_903 : decode cL_law 903 = .ok (.iload 22, 2) := by decide +kernel
theorem dL_law_905 : decode cL_law 905 = .ok (.iaload, 1) := by decide +kernel
theorem dL_law_906 : decode cL_law 906 = .ok (.if_icmp .ne 45, 3) := by decide +kernel
theorem dL_law_909 : decode cL_law 909 = .ok (.aload_n 1, 1) := by decide +kernel
theorem dL_law_910 : decode cL_law 910 = .ok (.iload 22, 2) := by decide +kernel
theorem dL_law_912 : decode cL_law 912 = .ok (.invokevirtual 131, 3) := by decide +kernel
theorem dL_law_915 : decode cL_law 915 = .ok (.aload 11, 2) := by decide +kernel
theorem dL_law_917 : decode cL_law 917 = .ok (.iload 22, 2) := by decide +kernel
theorem dL_law_919 : decode cL_law 919 = .ok (.iaload, 1) := by decide +kernel
theorem dL_law_920 : decode cL_law 920 = .ok (.if_icmp .ne 31, 3) := by decide +kernel
theorem dL_law_923 : decode cL_law 923 = .ok (.aload_n 1, 1) := by decide +kernel
theorem dL_law_924 : decode cL_law 924 = .ok (.iload 22, 2) := by decide +kernel
theorem dL_law_926 : decode cL_law 926 = .ok (.invokevirtual 134, 3) := by decide +kernel
theorem dL_law_929 : decode cL_law 929 = .ok (.aload 12, 2) := by decide +kernel
theorem dL_law_931 : decode cL_law 931 = .ok (.iload 22, 2) := by decide +kernel
theorem dL_law_933 : decode cL_law 933 = .ok (.iaload, 1) := by decide +kernel
theorem dL_law_934 : decode cL_law 934 = .ok (.if_icmp .ne 17, 3) := by decide +kernel
theorem dL_law_937 : decode cL_law 937 = .ok (.aload_n 1, 1) := by decide +kernel
theorem dL_law_938 : decode cL_law 938 = .ok (.iload 22, 2) := by decide +kernel
theorem dL_law_940 : decode cL_law 940 = .ok (.invokevirtual 137, 3) := by decide +kernel
theorem dL_law_943 : decode cL_law 943 = .ok (.aload 13, 2) := by decide +kernel
theorem dL_law_945 : decode cL_law 945 = .ok (.iload 22, 2) := by decide +kernel
theorem dL_law_947 : decode cL_law 947 = .ok (.iaload, 1) := by decide +kernel
theorem dL_law_948 : decode cL_law 948 = .ok (.if_icmp .eq 5, 3) := by decide +kernel
theorem dL_law_951 : decode cL_law 951 = .ok (.iconst 0, 1) := by decide +kernel
theorem dL_law_952 : decode cL_law 952 = .ok (.ireturn, 1) := by decide +kernel
theorem dL_law_953 : decode cL_law 953 = .ok (.iinc 22 1, 3) := by decide +kernel
theorem dL_law_956 : decode cL_law 956 = .ok (.goto (-67), 3) := by decide +kernel
theorem dL_law_959 : decode cL_law 959 = .ok (.iconst 0, 1) := by decide +kernel
theorem dL_law_960 : decode cL_law 960 = .ok (.istore 22, 2) := by decide +kernel
theorem dL_law_962 : decode cL_law 962 = .ok (.iload 22, 2) := by decide +kernel
theorem dL_law_964 : decode cL_law 964 = .ok (.iload 4, 2) := by decide +kernel
theorem dL_law_966 : decode cL_law 966 = .ok (.if_icmp .ge 97, 3) := by decide +kernel
theorem dL_law_969 : decode cL_law 969 = .ok (.aload_n 1, 1) := by decide +kernel
theorem dL_law_970 : decode cL_law 970 = .ok (.iload 22, 2) := by decide +kernel
theorem dL_law_972 : decode cL_law 972 = .ok (.invokevirtual 140, 3) := by decide +kernel
theorem dL_law_975 : decode cL_law 975 = .ok (.aload 14, 2) := by decide +kernel
theorem dL_law_977 : decode cL_law 977 = .ok (.iload 22, 2) := by decide +kernel
theorem dL_law_979 : decode cL_law 979 = .ok (.iaload, 1) := by decide +kernel
theorem dL_law_980 : decode cL_law 980 = .ok (.if_icmp .ne 31, 3) := by decide +kernel
theorem dL_law_983 : decode cL_law 983 = .ok (.aload_n 1, 1) := by decide +kernel
theorem dL_law_984 : decode cL_law 984 = .ok (.iload 22, 2) := by decide +kernel
theorem dL_law_986 : decode cL_law 986 = .ok (.invokevirtual 143, 3) := by decide +kernel
theorem dL_law_989 : decode cL_law 989 = .ok (.aload 15, 2) := by decide +kernel
theorem dL_law_991 : decode cL_law 991 = .ok (.iload 22, 2) := by decide +kernel
theorem dL_law_993 : decode cL_law 993 = .ok (.iaload, 1) := by decide +kernel
theorem dL_law_994 : decode cL_law 994 = .ok (.if_icmp .ne 17, 3) := by decide +kernel
theorem dL_law_997 : decode cL_law 997 = .ok (.aload_n 1, 1) := by decide +kernel
theorem dL_law_998 : decode cL_law 998 = .ok (.iload 22, 2) := by decide +kernel
theorem dL_law_1000 : decode cL_law 1000 = .ok (.invokevirtual 96, 3) := by decide +kernel
theorem dL_law_1003 : decode cL_law 1003 = .ok (.aload 16, 2) := by decide +kernel
theorem dL_law_1005 : decode cL_law 1005 = .ok (.iload 22, 2) := by decide +kernel
theorem dL_law_1007 : decode cL_law 1007 = .ok (.iaload, 1) := by decide +kernel
theorem dL_law_1008 : decode cL_law 1008 = .ok (.if_icmp .eq 5, 3) := by decide +kernel
theorem dL_law_1011 : decode cL_law 1011 = .ok (.iconst 0, 1) := by decide +kernel
theorem dL_law_1012 : decode cL_law 1012 = .ok (.ireturn, 1) := by decide +kernel
theorem dL_law_1013 : decode cL_law 1013 = .ok (.aload_n 1, 1) := by decide +kernel
theorem dL_law_1014 : decode cL_law 1014 = .ok (.iload 22, 2) := by decide +kernel
theorem dL_law_1016 : decode cL_law 1016 = .ok (.invokevirtual 146, 3) := by decide +kernel
theorem dL_law_1019 : decode cL_law 1019 = .ok (.aload 17, 2) := by decide +kernel
theorem dL_law_1021 : decode cL_law 1021 = .ok (.iload 22, 2) := by decide +kernel
theorem dL_law_1023 : decode cL_law 1023 = .ok (.iaload, 1) := by decide +kernel
theorem dL_law_1024 : decode cL_law 1024 = .ok (.if_icmp .ne 31, 3) := by decide +kernel
theorem dL_law_1027 : decode cL_law 1027 = .ok (.aload_n 1, 1) := by decide +kernel
theorem dL_law_1028 : decode cL_law 1028 = .ok (.iload 22, 2) := by decide +kernel
theorem dL_law_1030 : decode cL_law 1030 = .ok (.invokevirtual 149, 3) := by decide +kernel
theorem dL_law_1033 : decode cL_law 1033 = .ok (.aload 18, 2) := by decide +kernel
theorem dL_law_1035 : decode cL_law 1035 = .ok (.iload 22, 2) := by decide +kernel
theorem dL_law_1037 : decode cL_law 1037 = .ok (.iaload, 1) := by decide +kernel
theorem dL_law_1038 : decode cL_law 1038 = .ok (.if_icmp .ne 17, 3) := by decide +kernel
theorem dL_law_1041 : decode cL_law 1041 = .ok (.aload_n 1, 1) := by decide +kernel
theorem dL_law_1042 : decode cL_law 1042 = .ok (.iload 22, 2) := by decide +kernel
theorem dL_law_1044 : decode cL_law 1044 = .ok (.invokevirtual 152, 3) := by decide +kernel
theorem dL_law_1047 : decode cL_law 1047 = .ok (.aload 19, 2) := by decide +kernel
theorem dL_law_1049 : decode cL_law 1049 = .ok (.iload 22, 2) := by decide +kernel
theorem dL_law_1051 : decode cL_law 1051 = .ok (.iaload, 1) := by decide +kernel
theorem dL_law_1052 : decode cL_law 1052 = .ok (.if_icmp .eq 5, 3) := by decide +kernel
theorem dL_law_1055 : decode cL_law 1055 = .ok (.iconst 0, 1) := by decide +kernel
theorem dL_law_1056 : decode cL_law 1056 = .ok (.ireturn, 1) := by decide +kernel
theorem dL_law_1057 : decode cL_law 1057 = .ok (.iinc 22 1, 3) := by decide +kernel
theorem dL_law_1060 : decode cL_law 1060 = .ok (.goto (-98), 3) := by decide +kernel
theorem dL_law_1063 : decode cL_law 1063 = .ok (.iload_n 2, 1) := by decide +kernel
theorem dL_law_1064 : decode cL_law 1064 = .ok (.iconst 4, 1) := by decide +kernel
theorem dL_law_1065 : decode cL_law 1065 = .ok (.irem, 1) := by decide +kernel
theorem dL_law_1066 : decode cL_law 1066 = .ok (.iconst 3, 1) := by decide +kernel
theorem dL_law_1067 : decode cL_law 1067 = .ok (.if_icmp .ne 23, 3) := by decide +kernel
theorem dL_law_1070 : decode cL_law 1070 = .ok (.aload_n 1, 1) := by decide +kernel
theorem dL_law_1071 : decode cL_law 1071 = .ok (.aload_n 0, 1) := by decide +kernel
theorem dL_law_1072 : decode cL_law 1072 = .ok (.bipush 14, 2) := by decide +kernel
theorem dL_law_1074 : decode cL_law 1074 = .ok (.iload_n 2, 1) := by decide +kernel
theorem dL_law_1075 : decode cL_law 1075 = .ok (.bipush 15, 2) := by decide +kernel
theorem dL_law_1077 : decode cL_law 1077 = .ok (.irem, 1) := by decide +kernel
theorem dL_law_1078 : decode cL_law 1078 = .ok (.iadd, 1) := by decide +kernel
theorem dL_law_1079 : decode cL_law 1079 = .ok (.invokestatic 37, 3) := by decide +kernel
theorem dL_law_1082 : decode cL_law 1082 = .ok (.bipush 7, 2) := by decide +kernel
theorem dL_law_1084 : decode cL_law 1084 = .ok (.iload_n 2, 1) := by decide +kernel
theorem dL_law_1085 : decode cL_law 1085 = .ok (.imul, 1) := by decide +kernel
theorem dL_law_1086 : decode cL_law 1086 = .ok (.iadd, 1) := by decide +kernel
theorem dL_law_1087 : decode cL_law 1087 = .ok (.invokestatic 195, 3) := by decide +kernel
theorem dL_law_1090 : decode cL_law 1090 = .ok (.iinc 2 1, 3) := by decide +kernel
theorem dL_law_1093 : decode cL_law 1093 = .ok (.goto (-1080), 3) := by decide +kernel
theorem dL_law_1096 : decode cL_law 1096 = .ok (.aload_n 1, 1) := by decide +kernel
theorem dL_law_1097 : decode cL_law 1097 = .ok (.invokevirtual 199, 3) := by decide +kernel
theorem dL_law_1100 : decode cL_law 1100 = .ok (.ifCond .ne 7, 3) := by decide +kernel
theorem dL_law_1103 : decode cL_law 1103 = .ok (.iconst 1, 1) := by decide +kernel
theorem dL_law_1104 : decode cL_law 1104 = .ok (.goto 4, 3) := by decide +kernel
theorem dL_law_1107 : decode cL_law 1107 = .ok (.iconst 0, 1) := by decide +kernel
theorem dL_law_1108 : decode cL_law 1108 = .ok (.ireturn, 1) := by decide +kernel
