theorem d_L_law_666 : decode code 666 = .ok (.iaload, 1) := by decide +kernel
theorem d_L_law_667 : decode code 667 = .ok (.invokevirtual 96, 3) := by decide +kernel
theorem d_L_law_670 : decode code 670 = .ok (.istore 6, 2) := by decide +kernel
theorem d_L_law_672 : decode code 672 = .ok (.goto 96, 3) := by decide +kernel
theorem d_L_law_675 : decode code 675 = .ok (.aload_n 1, 1) := by decide +kernel
theorem d_L_law_676 : decode code 676 = .ok (.aload_n 0, 1) := by decide +kernel
theorem d_L_law_677 : decode code 677 = .ok (.iload 4, 2) := by decide +kernel
theorem d_L_law_679 : decode code 679 = .ok (.iconst 1, 1) := by decide +kernel
theorem d_L_law_680 : decode code 680 = .ok (.iadd, 1) := by decide +kernel
theorem d_L_law_681 : decode code 681 = .ok (.iaload, 1) := by decide +kernel
theorem d_L_law_682 : decode code 682 = .ok (.aload_n 0, 1) := by decide +kernel
theorem d_L_law_683 : decode code 683 = .ok (.iload 4, 2) := by decide +kernel
theorem d_L_law_685 : decode code 685 = .ok (.iconst 2, 1) := by decide +kernel
theorem d_L_law_686 : decode code 686 = .ok (.iadd, 1) := by decide +kernel
theorem d_L_law_687 : decode code 687 = .ok (.iaload, 1) := by decide +kernel
theorem d_L_law_688 : decode code 688 = .ok (.aload_n 3, 1) := by decide +kernel
theorem d_L_law_689 : decode code 689 = .ok (.invokestatic 97, 3) := by decide +kernel
theorem d_L_law_692 : decode code 692 = .ok (.istore 5, 2) := by decide +kernel
theorem d_L_law_694 : decode code 694 = .ok (.aload_n 2, 1) := by decide +kernel
theorem d_L_law_695 : decode code 695 = .ok (.aload_n 0, 1) := by decide +kernel
theorem d_L_law_696 : decode code 696 = .ok (.iload 4, 2) := by decide +kernel
theorem d_L_law_698 : decode code 698 = .ok (.iconst 1, 1) := by decide +kernel
theorem d_L_law_699 : decode code 699 = .ok (.iadd, 1) := by decide +kernel
theorem d_L_law_700 : decode code 700 = .ok (.iaload, 1) := by decide +kernel
theorem d_L_law_701 : decode code 701 = .ok (.aload_n 0, 1) := by decide +kernel
theorem d_L_law_702 : decode code 702 = .ok (.iload 4, 2) := by decide +kernel
theorem d_L_law_704 : decode code 704 = .ok (.iconst 2, 1) := by decide +kernel
theorem d_L_law_705 : decode code 705 = .ok (.iadd, 1) := by decide +kernel
theorem d_L_law_706 : decode code 706 = .ok (.iaload, 1) := by decide +kernel
theorem d_L_law_707 : decode code 707 = .ok (.invokevirtual 99, 3) := by decide +kernel
theorem d_L_law_710 : decode code 710 = .ok (.istore 6, 2) := by decide +kernel
theorem d_L_law_712 : decode code 712 = .ok (.aload_n 2, 1) := by decide +kernel
theorem d_L_law_713 : decode code 713 = .ok (.invokevirtual 100, 3) := by decide +kernel
theorem d_L_law_716 : decode code 716 = .ok (.iload 5, 2) := by decide +kernel
theorem d_L_law_718 : decode code 718 = .ok (.if_icmp .eq 5, 3) := by decide +kernel
theorem d_L_law_721 : decode code 721 = .ok (.iconst 0, 1) := by decide +kernel
theorem d_L_law_722 : decode code 722 = .ok (.ireturn, 1) := by decide +kernel
theorem d_L_law_723 : decode code 723 = .ok (.iload 5, 2) := by decide +kernel
theorem d_L_law_725 : decode code 725 = .ok (.ifCond .ne 15, 3) := by decide +kernel
theorem d_L_law_728 : decode code 728 = .ok (.aload_n 3, 1) := by decide +kernel
theorem d_L_law_729 : decode code 729 = .ok (.iconst 0, 1) := by decide +kernel
theorem d_L_law_730 : decode code 730 = .ok (.laload, 1) := by decide +kernel
theorem d_L_law_731 : decode code 731 = .ok (.iload 6, 2) := by decide +kernel
theorem d_L_law_733 : decode code 733 = .ok (.i2l, 1) := by decide +kernel
theorem d_L_law_734 : decode code 734 = .ok (.lcmp, 1) := by decide +kernel
theorem d_L_law_735 : decode code 735 = .ok (.ifCond .eq 5, 3) := by decide +kernel
theorem d_L_law_738 : decode code 738 = .ok (.iconst 0, 1) := by decide +kernel
theorem d_L_law_739 : decode code 739 = .ok (.ireturn, 1) := by decide +kernel
theorem d_L_law_740 : decode code 740 = .ok (.goto 28, 3) := by decide +kernel
theorem d_L_law_743 : decode code 743 = .ok (.aload_n 1, 1) := by decide +kernel
theorem d_L_law_744 : decode code 744 = .ok (.aload_n 0, 1) := by decide +kernel
theorem d_L_law_745 : decode code 745 = .ok (.iload 4, 2) := by decide +kernel
theorem d_L_law_747 : decode code 747 = .ok (.iconst 1, 1) := by decide +kernel
theorem d_L_law_748 : decode code 748 = .ok (.iadd, 1) := by decide +kernel
theorem d_L_law_749 : decode code 749 = .ok (.iaload, 1) := by decide +kernel
theorem d_L_law_750 : decode code 750 = .ok (.invokevirtual 104, 3) := by decide +kernel
theorem d_L_law_753 : decode code 753 = .ok (.pop, 1) := by decide +kernel
theorem d_L_law_754 : decode code 754 = .ok (.aload_n 2, 1) := by decide +kernel
theorem d_L_law_755 : decode code 755 = .ok (.aload_n 0, 1) := by decide +kernel
theorem d_L_law_756 : decode code 756 = .ok (.iload 4, 2) := by decide +kernel
theorem d_L_law_758 : decode code 758 = .ok (.iconst 1, 1) := by decide +kernel
theorem d_L_law_759 : decode code 759 = .ok (.iadd, 1) := by decide +kernel
theorem d_L_law_760 : decode code 760 = .ok (.iaload, 1) := by decide +kernel
theorem d_L_law_761 : decode code 761 = .ok (.invokevirtual 107, 3) := by decide +kernel
theorem d_L_law_764 : decode code 764 = .ok (.pop, 1) := by decide +kernel
theorem d_L_law_765 : decode code 765 = .ok (.goto 3, 3) := by decide +kernel
theorem d_L_law_768 : decode code 768 = .ok (.iinc 4 8, 3) := by decide +kernel
theorem d_L_law_771 : decode code 771 = .ok (.goto (-748), 3) := by decide +kernel
theorem d_L_law_774 : decode code 774 = .ok (.iconst 1, 1) := by decide +kernel
theorem d_L_law_775 : decode code 775 = .ok (.ireturn, 1) := by decide +kernel

