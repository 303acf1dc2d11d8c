theorem d_L_law_666 : decode code 666 = .ok (.iaload, 1) := by decide +kernel
theorem d_L_law_667 : decode code 667 = .ok (.invokevirtual 96, 3) := by decide +kernel
theorem d_L_law_670 : decode code 670 = .ok (.istore 6, 2) := by decide +kernel
theorem d_L_law_672 : decode code 672 = .ok (.goto 68, 3) := by decide +kernel
theorem d_L_law_675 : decode code 675 = .ok (.aload_n 1, 1) := by decide +kernel
theorem d_L_law_676 : decode code 676 = .ok (.aload_n 0, 1) := by decide +kernel
theorem d_L_law_677 : decode code 677 = .ok (.iload 4, 2) := by decide +kernel
theorem d_L_law_679 : decode code 679 = .ok (.iconst 1, 1) := by decide +kernel
theorem d_L_law_680 : decode code 680 = .ok (.iadd, 1) := by decide +kernel
theorem d_L_law_681 : decode code 681 = .ok (.iaload, 1) := by decide +kernel
theorem d_L_law_682 : decode code 682 = .ok (.aload_n 0, 1) := by decide +kernel
theorem d_L_law_683 : decode code 683 = .ok (.iload 4, 2) := by decide +kernel
theorem d_L_law_685 : decode code 685 = .ok (.iconst 2, 1) := by decide +kernel
theorem d_L_law_686 : decode code 686 = .ok (.iadd, 1) := by decide +kernel
theorem d_L_law_687 : decode code 687 = .ok (.iaload, 1) := by decide +kernel
theorem d_L_law_688 : decode code 688 = .ok (.aload_n 3, 1) := by decide +kernel
theorem d_L_law_689 : decode code 689 = .ok (.invokestatic 97, 3) := by decide +kernel
theorem d_L_law_692 : decode code 692 = .ok (.istore 5, 2) := by decide +kernel
theorem d_L_law_694 : decode code 694 = .ok (.aload_n 2, 1) := by decide +kernel
theorem d_L_law_695 : decode code 695 = .ok (.aload_n 0, 1) := by decide +kernel
theorem d_L_law_696 : decode code 696 = .ok (.iload 4, 2) := by decide +kernel
theorem d_L_law_698 : decode code 698 = .ok (.iconst 1, 1) := by decide +kernel
theorem d_L_law_699 : decode code 699 = .ok (.iadd, 1) := by decide +kernel
theorem d_L_law_700 : decode code 700 = .ok (.iaload, 1) := by decide +kernel
theorem d_L_law_701 : decode code 701 = .ok (.aload_n 0, 1) := by decide +kernel
theorem d_L_law_702 : decode code 702 = .ok (.iload 4, 2) := by decide +kernel
theorem d_L_law_704 : decode code 704 = .ok (.iconst 2, 1) := by decide +kernel
theorem d_L_law_705 : decode code 705 = .ok (.iadd, 1) := by decide +kernel
theorem d_L_law_706 : decode code 706 = .ok (.iaload, 1) := by decide +kernel
theorem d_L_law_707 : decode code 707 = .ok (.invokevirtual 99, 3) := by decide +kernel
theorem d_L_law_710 : decode code 710 = .ok (.istore 6, 2) := by decide +kernel
theorem d_L_law_712 : decode code 712 = .ok (.goto 28, 3) := by decide +kernel
theorem d_L_law_715 : decode code 715 = .ok (.aload_n 1, 1) := by decide +kernel
theorem d_L_law_716 : decode code 716 = .ok (.aload_n 0, 1) := by decide +kernel
theorem d_L_law_717 : decode code 717 = .ok (.iload 4, 2) := by decide +kernel
theorem d_L_law_719 : decode code 719 = .ok (.iconst 1, 1) := by decide +kernel
theorem d_L_law_720 : decode code 720 = .ok (.iadd, 1) := by decide +kernel
theorem d_L_law_721 : decode code 721 = .ok (.iaload, 1) := by decide +kernel
theorem d_L_law_722 : decode code 722 = .ok (.invokevirtual 100, 3) := by decide +kernel
theorem d_L_law_725 : decode code 725 = .ok (.pop, 1) := by decide +kernel
theorem d_L_law_726 : decode code 726 = .ok (.aload_n 2, 1) := by decide +kernel
theorem d_L_law_727 : decode code 727 = .ok (.aload_n 0, 1) := by decide +kernel
theorem d_L_law_728 : decode code 728 = .ok (.iload 4, 2) := by decide +kernel
theorem d_L_law_730 : decode code 730 = .ok (.iconst 1, 1) := by decide +kernel
theorem d_L_law_731 : decode code 731 = .ok (.iadd, 1) := by decide +kernel
theorem d_L_law_732 : decode code 732 = .ok (.iaload, 1) := by decide +kernel
theorem d_L_law_733 : decode code 733 = .ok (.invokevirtual 103, 3) := by decide +kernel
theorem d_L_law_736 : decode code 736 = .ok (.pop, 1) := by decide +kernel
theorem d_L_law_737 : decode code 737 = .ok (.goto 3, 3) := by decide +kernel
theorem d_L_law_740 : decode code 740 = .ok (.iinc 4 8, 3) := by decide +kernel
theorem d_L_law_743 : decode code 743 = .ok (.goto (-720), 3) := by decide +kernel
theorem d_L_law_746 : decode code 746 = .ok (.iconst 1, 1) := by decide +kernel
theorem d_L_law_747 : decode code 747 = .ok (.ireturn, 1) := by decide +kernel

