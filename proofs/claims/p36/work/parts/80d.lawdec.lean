/-! the law's instructions -/
theorem dL_law_642 : decode cL_law 642 = .ok (.ishr, 1) := by decide +kernel
theorem dL_law_643 : decode cL_law 643 = .ok (.iconst 2, 1) := by decide +kernel
theorem dL_law_644 : decode cL_law 644 = .ok (.invokestatic 28, 3) := by decide +kernel
theorem dL_law_647 : decode cL_law 647 = .ok (.ifCond .ne 48, 3) := by decide +kernel
theorem dL_law_650 : decode cL_law 650 = .ok (.aload_n 1, 1) := by decide +kernel
theorem dL_law_651 : decode cL_law 651 = .ok (.iload 14, 2) := by decide +kernel
theorem dL_law_653 : decode cL_law 653 = .ok (.invokestatic 148, 3) := by decide +kernel
theorem dL_law_656 : decode cL_law 656 = .ok (.aload_n 2, 1) := by decide +kernel
theorem dL_law_657 : decode cL_law 657 = .ok (.iload 14, 2) := by decide +kernel
theorem dL_law_659 : decode cL_law 659 = .ok (.invokevirtual 50, 3) := by decide +kernel
theorem dL_law_662 : decode cL_law 662 = .ok (.if_icmp .ne 25, 3) := by decide +kernel
theorem dL_law_665 : decode cL_law 665 = .ok (.aload_n 1, 1) := by decide +kernel
theorem dL_law_666 : decode cL_law 666 = .ok (.invokevirtual 100, 3) := by decide +kernel
theorem dL_law_669 : decode cL_law 669 = .ok (.iload 13, 2) := by decide +kernel
theorem dL_law_671 : decode cL_law 671 = .ok (.if_icmp .gt 16, 3) := by decide +kernel
theorem dL_law_674 : decode cL_law 674 = .ok (.aload_n 1, 1) := by decide +kernel
theorem dL_law_675 : decode cL_law 675 = .ok (.invokevirtual 115, 3) := by decide +kernel
theorem dL_law_678 : decode cL_law 678 = .ok (.aload_n 2, 1) := by decide +kernel
theorem dL_law_679 : decode cL_law 679 = .ok (.getfield 152, 3) := by decide +kernel
theorem dL_law_682 : decode cL_law 682 = .ok (.iconst 0, 1) := by decide +kernel
theorem dL_law_683 : decode cL_law 683 = .ok (.iaload, 1) := by decide +kernel
theorem dL_law_684 : decode cL_law 684 = .ok (.if_icmp .eq 5, 3) := by decide +kernel
theorem dL_law_687 : decode cL_law 687 = .ok (.iconst 0, 1) := by decide +kernel
theorem dL_law_688 : decode cL_law 688 = .ok (.ireturn, 1) := by decide +kernel
theorem dL_law_689 : decode cL_law 689 = .ok (.aload_n 1, 1) := by decide +kernel
theorem dL_law_690 : decode cL_law 690 = .ok (.invokevirtual 100, 3) := by decide +kernel
theorem dL_law_693 : decode cL_law 693 = .ok (.istore 9, 2) := by decide +kernel
theorem dL_law_695 : decode cL_law 695 = .ok (.iload 4, 2) := by decide +kernel
theorem dL_law_697 : decode cL_law 697 = .ok (.bipush 6, 2) := by decide +kernel
theorem dL_law_699 : decode cL_law 699 = .ok (.ishr, 1) := by decide +kernel
theorem dL_law_700 : decode cL_law 700 = .ok (.bipush 10, 2) := by decide +kernel
theorem dL_law_702 : decode cL_law 702 = .ok (.invokestatic 28, 3) := by decide +kernel
theorem dL_law_705 : decode cL_law 705 = .ok (.istore 15, 2) := by decide +kernel
theorem dL_law_707 : decode cL_law 707 = .ok (.aload_n 1, 1) := by decide +kernel
theorem dL_law_708 : decode cL_law 708 = .ok (.iload 15, 2) := by decide +kernel
theorem dL_law_710 : decode cL_law 710 = .ok (.invokevirtual 133, 3) := by decide +kernel
theorem dL_law_713 : decode cL_law 713 = .ok (.istore 16, 2) := by decide +kernel
theorem dL_law_715 : decode cL_law 715 = .ok (.iload 16, 2) := by decide +kernel
theorem dL_law_717 : decode cL_law 717 = .ok (.istore 17, 2) := by decide +kernel
theorem dL_law_719 : decode cL_law 719 = .ok (.iload 17, 2) := by decide +kernel
theorem dL_law_721 : decode cL_law 721 = .ok (.ifCond .le 100, 3) := by decide +kernel
theorem dL_law_724 : decode cL_law 724 = .ok (.iload 4, 2) := by decide +kernel
theorem dL_law_726 : decode cL_law 726 = .ok (.bipush 7, 2) := by decide +kernel
theorem dL_law_728 : decode cL_law 728 = .ok (.ishr, 1) := by decide +kernel
theorem dL_law_729 : decode cL_law 729 = .ok (.iconst 2, 1) := by decide +kernel
theorem dL_law_730 : decode cL_law 730 = .ok (.invokestatic 28, 3) := by decide +kernel
theorem dL_law_733 : decode cL_law 733 = .ok (.ifCond .ne 13, 3) := by decide +kernel
theorem dL_law_736 : decode cL_law 736 = .ok (.iload 17, 2) := by decide +kernel
theorem dL_law_738 : decode cL_law 738 = .ok (.iload 16, 2) := by decide +kernel
theorem dL_law_740 : decode cL_law 740 = .ok (.if_icmp .ge 6, 3) := by decide +kernel
theorem dL_law_743 : decode cL_law 743 = .ok (.goto 78, 3) := by decide +kernel
theorem dL_law_746 : decode cL_law 746 = .ok (.aload_n 1, 1) := by decide +kernel
theorem dL_law_747 : decode cL_law 747 = .ok (.iload 15, 2) := by decide +kernel
theorem dL_law_749 : decode cL_law 749 = .ok (.invokevirtual 155, 3) := by decide +kernel
theorem dL_law_752 : decode cL_law 752 = .ok (.istore 18, 2) := by decide +kernel
theorem dL_law_754 : decode cL_law 754 = .ok (.aload_n 1, 1) := by decide +kernel
theorem dL_law_755 : decode cL_law 755 = .ok (.iload 15, 2) := by decide +kernel
theorem dL_law_757 : decode cL_law 757 = .ok (.invokevirtual 133, 3) := by decide +kernel
theorem dL_law_760 : decode cL_law 760 = .ok (.iload 17, 2) := by decide +kernel
theorem dL_law_762 : decode cL_law 762 = .ok (.if_icmp .ne 21, 3) := by decide +kernel
theorem dL_law_765 : decode cL_law 765 = .ok (.aload_n 1, 1) := by decide +kernel
theorem dL_law_766 : decode cL_law 766 = .ok (.iload 15, 2) := by decide +kernel
theorem dL_law_768 : decode cL_law 768 = .ok (.invokevirtual 94, 3) := by decide +kernel
theorem dL_law_771 : decode cL_law 771 = .ok (.ifCond .ne 12, 3) := by decide +kernel
theorem dL_law_774 : decode cL_law 774 = .ok (.aload_n 2, 1) := by decide +kernel
theorem dL_law_775 : decode cL_law 775 = .ok (.iload 18, 2) := by decide +kernel
theorem dL_law_777 : decode cL_law 777 = .ok (.invokevirtual 139, 3) := by decide +kernel
theorem dL_law_780 : decode cL_law 780 = .ok (.ifCond .ne 5, 3) := by decide +kernel
theorem dL_law_783 : decode cL_law 783 = .ok (.iconst 0, 1) := by decide +kernel
theorem dL_law_784 : decode cL_law 784 = .ok (.ireturn, 1) := by decide +kernel
theorem dL_law_785 : decode cL_law 785 = .ok (.aload_n 1, 1) := by decide +kernel
theorem dL_law_786 : decode cL_law 786 = .ok (.iload 18, 2) := by decide +kernel
theorem dL_law_788 : decode cL_law 788 = .ok (.invokestatic 148, 3) := by decide +kernel
theorem dL_law_791 : decode cL_law 791 = .ok (.aload_n 2, 1) := by decide +kernel
theorem dL_law_792 : decode cL_law 792 = .ok (.iload 18, 2) := by decide +kernel
theorem dL_law_794 : decode cL_law 794 = .ok (.invokevirtual 50, 3) := by decide +kernel
theorem dL_law_797 : decode cL_law 797 = .ok (.if_icmp .ne 16, 3) := by decide +kernel
theorem dL_law_800 : decode cL_law 800 = .ok (.aload_n 1, 1) := by decide +kernel
theorem dL_law_801 : decode cL_law 801 = .ok (.iload 15, 2) := by decide +kernel
theorem dL_law_803 : decode cL_law 803 = .ok (.invokevirtual 133, 3) := by decide +kernel
theorem dL_law_806 : decode cL_law 806 = .ok (.iload 17, 2) := by decide +kernel
theorem dL_law_808 : decode cL_law 808 = .ok (.iconst 1, 1) := by decide +kernel
theorem dL_law_809 : decode cL_law 809 = .ok (.isub, 1) := by decide +kernel
theorem dL_law_810 : decode cL_law 810 = .ok (.if_icmp .eq 5, 3) := by decide +kernel
theorem dL_law_813 : decode cL_law 813 = .ok (.iconst 0, 1) := by decide +kernel
theorem dL_law_814 : decode cL_law 814 = .ok (.ireturn, 1) := by decide +kernel
theorem dL_law_815 : decode cL_law 815 = .ok (.iinc 17 (-1), 3) := by decide +kernel
theorem dL_law_818 : decode cL_law 818 = .ok (.goto (-99), 3) := by decide +kernel
theorem dL_law_821 : decode cL_law 821 = .ok (.iload 16, 2) := by decide +kernel
theorem dL_law_823 : decode cL_law 823 = .ok (.ifCond .ge 6, 3) := by decide +kernel
theorem dL_law_826 : decode cL_law 826 = .ok (.goto 140, 3) := by decide +kernel
theorem dL_law_829 : decode cL_law 829 = .ok (.aload_n 1, 1) := by decide +kernel
theorem dL_law_830 : decode cL_law 830 = .ok (.iload 15, 2) := by decide +kernel
theorem dL_law_832 : decode cL_law 832 = .ok (.invokevirtual 133, 3) := by decide +kernel
theorem dL_law_835 : decode cL_law 835 = .ok (.istore 16, 2) := by decide +kernel
theorem dL_law_837 : decode cL_law 837 = .ok (.iload 4, 2) := by decide +kernel
theorem dL_law_839 : decode cL_law 839 = .ok (.iconst 4, 1) := by decide +kernel
theorem dL_law_840 : decode cL_law 840 = .ok (.ishr, 1) := by decide +kernel
theorem dL_law_841 : decode cL_law 841 = .ok (.iconst 4, 1) := by decide +kernel
theorem dL_law_842 : decode cL_law 842 = .ok (.invokestatic 28, 3) := by decide +kernel
theorem dL_law_845 : decode cL_law 845 = .ok (.istore 17, 2) := by decide +kernel
theorem dL_law_847 : decode cL_law 847 = .ok (.iload 17, 2) := by decide +kernel
theorem dL_law_849 : decode cL_law 849 = .ok (.ifCond .le 99, 3) := by decide +kernel
theorem dL_law_852 : decode cL_law 852 = .ok (.iload 16, 2) := by decide +kernel
theorem dL_law_854 : decode cL_law 854 = .ok (.ifCond .le 94, 3) := by decide +kernel
theorem dL_law_857 : decode cL_law 857 = .ok (.aload_n 1, 1) := by decide +kernel
theorem dL_law_858 : decode cL_law 858 = .ok (.iload 15, 2) := by decide +kernel
theorem dL_law_860 : decode cL_law 860 = .ok (.invokevirtual 155, 3) := by decide +kernel
theorem dL_law_863 : decode cL_law 863 = .ok (.istore 18, 2) := by decide +kernel
theorem dL_law_865 : decode cL_law 865 = .ok (.aload_n 1, 1) := by decide +kernel
