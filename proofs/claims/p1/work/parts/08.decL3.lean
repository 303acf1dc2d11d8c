theorem d_L_law_696 : decode code 696 = .ok (.ireturn, 1) := by decide +kernel
theorem d_L_law_697 : decode code 697 = .ok (.goto 281, 3) := by decide +kernel
theorem d_L_law_700 : decode code 700 = .ok (.aload_n 1, 1) := by decide +kernel
theorem d_L_law_701 : decode code 701 = .ok (.aload_n 0, 1) := by decide +kernel
theorem d_L_law_702 : decode code 702 = .ok (.iload 4, 2) := by decide +kernel
theorem d_L_law_704 : decode code 704 = .ok (.iconst 1, 1) := by decide +kernel
theorem d_L_law_705 : decode code 705 = .ok (.iadd, 1) := by decide +kernel
theorem d_L_law_706 : decode code 706 = .ok (.iaload, 1) := by decide +kernel
theorem d_L_law_707 : decode code 707 = .ok (.invokevirtual 90, 3) := by decide +kernel
theorem d_L_law_710 : decode code 710 = .ok (.aload_n 2, 1) := by decide +kernel
theorem d_L_law_711 : decode code 711 = .ok (.aload_n 0, 1) := by decide +kernel
theorem d_L_law_712 : decode code 712 = .ok (.iload 4, 2) := by decide +kernel
theorem d_L_law_714 : decode code 714 = .ok (.iconst 1, 1) := by decide +kernel
theorem d_L_law_715 : decode code 715 = .ok (.iadd, 1) := by decide +kernel
theorem d_L_law_716 : decode code 716 = .ok (.iaload, 1) := by decide +kernel
theorem d_L_law_717 : decode code 717 = .ok (.invokevirtual 94, 3) := by decide +kernel
theorem d_L_law_720 : decode code 720 = .ok (.if_icmp .eq 258, 3) := by decide +kernel
theorem d_L_law_723 : decode code 723 = .ok (.iconst 0, 1) := by decide +kernel
theorem d_L_law_724 : decode code 724 = .ok (.ireturn, 1) := by decide +kernel
theorem d_L_law_725 : decode code 725 = .ok (.aload_n 1, 1) := by decide +kernel
theorem d_L_law_726 : decode code 726 = .ok (.aload_n 0, 1) := by decide +kernel
theorem d_L_law_727 : decode code 727 = .ok (.iload 4, 2) := by decide +kernel
theorem d_L_law_729 : decode code 729 = .ok (.iconst 1, 1) := by decide +kernel
theorem d_L_law_730 : decode code 730 = .ok (.iadd, 1) := by decide +kernel
theorem d_L_law_731 : decode code 731 = .ok (.iaload, 1) := by decide +kernel
theorem d_L_law_732 : decode code 732 = .ok (.aload_n 0, 1) := by decide +kernel
theorem d_L_law_733 : decode code 733 = .ok (.iload 4, 2) := by decide +kernel
theorem d_L_law_735 : decode code 735 = .ok (.iconst 2, 1) := by decide +kernel
theorem d_L_law_736 : decode code 736 = .ok (.iadd, 1) := by decide +kernel
theorem d_L_law_737 : decode code 737 = .ok (.iaload, 1) := by decide +kernel
theorem d_L_law_738 : decode code 738 = .ok (.aload_n 0, 1) := by decide +kernel
theorem d_L_law_739 : decode code 739 = .ok (.iload 4, 2) := by decide +kernel
theorem d_L_law_741 : decode code 741 = .ok (.iconst 3, 1) := by decide +kernel
theorem d_L_law_742 : decode code 742 = .ok (.iadd, 1) := by decide +kernel
theorem d_L_law_743 : decode code 743 = .ok (.iaload, 1) := by decide +kernel
theorem d_L_law_744 : decode code 744 = .ok (.aload_n 3, 1) := by decide +kernel
theorem d_L_law_745 : decode code 745 = .ok (.invokestatic 95, 3) := by decide +kernel
theorem d_L_law_748 : decode code 748 = .ok (.istore 5, 2) := by decide +kernel
theorem d_L_law_750 : decode code 750 = .ok (.aload_n 2, 1) := by decide +kernel
theorem d_L_law_751 : decode code 751 = .ok (.aload_n 0, 1) := by decide +kernel
theorem d_L_law_752 : decode code 752 = .ok (.iload 4, 2) := by decide +kernel
theorem d_L_law_754 : decode code 754 = .ok (.iconst 1, 1) := by decide +kernel
theorem d_L_law_755 : decode code 755 = .ok (.iadd, 1) := by decide +kernel
theorem d_L_law_756 : decode code 756 = .ok (.iaload, 1) := by decide +kernel
theorem d_L_law_757 : decode code 757 = .ok (.aload_n 0, 1) := by decide +kernel
theorem d_L_law_758 : decode code 758 = .ok (.iload 4, 2) := by decide +kernel
theorem d_L_law_760 : decode code 760 = .ok (.iconst 2, 1) := by decide +kernel
theorem d_L_law_761 : decode code 761 = .ok (.iadd, 1) := by decide +kernel
theorem d_L_law_762 : decode code 762 = .ok (.iaload, 1) := by decide +kernel
theorem d_L_law_763 : decode code 763 = .ok (.aload_n 0, 1) := by decide +kernel
theorem d_L_law_764 : decode code 764 = .ok (.iload 4, 2) := by decide +kernel
theorem d_L_law_766 : decode code 766 = .ok (.iconst 3, 1) := by decide +kernel
theorem d_L_law_767 : decode code 767 = .ok (.iadd, 1) := by decide +kernel
theorem d_L_law_768 : decode code 768 = .ok (.iaload, 1) := by decide +kernel
theorem d_L_law_769 : decode code 769 = .ok (.invokevirtual 97, 3) := by decide +kernel
theorem d_L_law_772 : decode code 772 = .ok (.istore 6, 2) := by decide +kernel
theorem d_L_law_774 : decode code 774 = .ok (.aload_n 2, 1) := by decide +kernel
theorem d_L_law_775 : decode code 775 = .ok (.invokevirtual 58, 3) := by decide +kernel
theorem d_L_law_778 : decode code 778 = .ok (.iload 5, 2) := by decide +kernel
theorem d_L_law_780 : decode code 780 = .ok (.if_icmp .eq 5, 3) := by decide +kernel
theorem d_L_law_783 : decode code 783 = .ok (.iconst 0, 1) := by decide +kernel
theorem d_L_law_784 : decode code 784 = .ok (.ireturn, 1) := by decide +kernel
theorem d_L_law_785 : decode code 785 = .ok (.iload 5, 2) := by decide +kernel
theorem d_L_law_787 : decode code 787 = .ok (.ifCond .ne 15, 3) := by decide +kernel
theorem d_L_law_790 : decode code 790 = .ok (.aload_n 3, 1) := by decide +kernel
theorem d_L_law_791 : decode code 791 = .ok (.iconst 0, 1) := by decide +kernel
theorem d_L_law_792 : decode code 792 = .ok (.laload, 1) := by decide +kernel
theorem d_L_law_793 : decode code 793 = .ok (.iload 6, 2) := by decide +kernel
theorem d_L_law_795 : decode code 795 = .ok (.i2l, 1) := by decide +kernel
theorem d_L_law_796 : decode code 796 = .ok (.lcmp, 1) := by decide +kernel
theorem d_L_law_797 : decode code 797 = .ok (.ifCond .eq 5, 3) := by decide +kernel
theorem d_L_law_800 : decode code 800 = .ok (.iconst 0, 1) := by decide +kernel
theorem d_L_law_801 : decode code 801 = .ok (.ireturn, 1) := by decide +kernel
theorem d_L_law_802 : decode code 802 = .ok (.goto 176, 3) := by decide +kernel
theorem d_L_law_805 : decode code 805 = .ok (.aload_n 1, 1) := by decide +kernel
theorem d_L_law_806 : decode code 806 = .ok (.aload_n 0, 1) := by decide +kernel
theorem d_L_law_807 : decode code 807 = .ok (.iload 4, 2) := by decide +kernel
theorem d_L_law_809 : decode code 809 = .ok (.iconst 1, 1) := by decide +kernel
theorem d_L_law_810 : decode code 810 = .ok (.iadd, 1) := by decide +kernel
theorem d_L_law_811 : decode code 811 = .ok (.iaload, 1) := by decide +kernel
theorem d_L_law_812 : decode code 812 = .ok (.aload_n 0, 1) := by decide +kernel
theorem d_L_law_813 : decode code 813 = .ok (.iload 4, 2) := by decide +kernel
theorem d_L_law_815 : decode code 815 = .ok (.iconst 2, 1) := by decide +kernel
theorem d_L_law_816 : decode code 816 = .ok (.iadd, 1) := by decide +kernel
theorem d_L_law_817 : decode code 817 = .ok (.iaload, 1) := by decide +kernel
theorem d_L_law_818 : decode code 818 = .ok (.aload_n 0, 1) := by decide +kernel
theorem d_L_law_819 : decode code 819 = .ok (.iload 4, 2) := by decide +kernel
theorem d_L_law_821 : decode code 821 = .ok (.iconst 3, 1) := by decide +kernel
theorem d_L_law_822 : decode code 822 = .ok (.iadd, 1) := by decide +kernel
theorem d_L_law_823 : decode code 823 = .ok (.iaload, 1) := by decide +kernel
theorem d_L_law_824 : decode code 824 = .ok (.aload_n 3, 1) := by decide +kernel
theorem d_L_law_825 : decode code 825 = .ok (.invokestatic 98, 3) := by decide +kernel
theorem d_L_law_828 : decode code 828 = .ok (.istore 5, 2) := by decide +kernel
theorem d_L_law_830 : decode code 830 = .ok (.aload_n 2, 1) := by decide +kernel
theorem d_L_law_831 : decode code 831 = .ok (.aload_n 0, 1) := by decide +kernel
theorem d_L_law_832 : decode code 832 = .ok (.iload 4, 2) := by decide +kernel
theorem d_L_law_834 : decode code 834 = .ok (.iconst 1, 1) := by decide +kernel
theorem d_L_law_835 : decode code 835 = .ok (.iadd, 1) := by decide +kernel
theorem d_L_law_836 : decode code 836 = .ok (.iaload, 1) := by decide +kernel
theorem d_L_law_837 : decode code 837 = .ok (.aload_n 0, 1) := by decide +kernel
theorem d_L_law_838 : decode code 838 = .ok (.iload 4, 2) := by decide +kernel
theorem d_L_law_840 : decode code 840 = .ok (.iconst 2, 1) := by decide +kernel
theorem d_L_law_841 : decode code 841 = .ok (.iadd, 1) := by decide +kernel
theorem d_L_law_842 : decode code 842 = .ok (.iaload, 1) := by decide +kernel
theorem d_L_law_843 : decode code 843 = .ok (.aload_n 0, 1) := by decide +kernel
theorem d_L_law_844 : decode code 844 = .ok (.iload 4, 2) := by decide +kernel
theorem d_L_law_846 : decode code 846 = .ok (.iconst 3, 1) := by decide +kernel
theorem d_L_law_847 : decode code 847 = .ok (.iadd, 1) := by decide +kernel
theorem d_L_law_848 : decode code 848 = .ok (.iaload, 1) := by decide +kernel
theorem d_L_law_849 : decode code 849 = .ok (.invokevirtual 100, 3) := by decide +kernel
theorem d_L_law_852 : decode code 852 = .ok (.istore 6, 2) := by decide +kernel
theorem d_L_law_854 : decode code 854 = .ok (.aload_n 2, 1) := by decide +kernel
theorem d_L_law_855 : decode code 855 = .ok (.invokevirtual 58, 3) := by decide +kernel
theorem d_L_law_858 : decode code 858 = .ok (.iload 5, 2) := by decide +kernel
theorem d_L_law_860 : decode code 860 = .ok (.if_icmp .eq 5, 3) := by decide +kernel
theorem d_L_law_863 : decode code 863 = .ok (.iconst 0, 1) := by decide +kernel
theorem d_L_law_864 : decode code 864 = .ok (.ireturn, 1) := by decide +kernel
theorem d_L_law_865 : decode code 865 = .ok (.iload 5, 2) := by decide +kernel
theorem d_L_law_867 : decode code 867 = .ok (.ifCond .ne 15, 3) := by decide +kernel
theorem d_L_law_870 : decode code 870 = .ok (.aload_n 3, 1) := by decide +kernel
theorem d_L_law_871 : decode code 871 = .ok (.iconst 0, 1) := by decide +kernel
theorem d_L_law_872 : decode code 872 = .ok (.laload, 1) := by decide +kernel
theorem d_L_law_873 : decode code 873 = .ok (.iload 6, 2) := by decide +kernel
theorem d_L_law_875 : decode code 875 = .ok (.i2l, 1) := by decide +kernel
theorem d_L_law_876 : decode code 876 = .ok (.lcmp, 1) := by decide +kernel
theorem d_L_law_877 : decode code 877 = .ok (.ifCond .eq 5, 3) := by decide +kernel
theorem d_L_law_880 : decode code 880 = .ok (.iconst 0, 1) := by decide +kernel
theorem d_L_law_881 : decode code 881 = .ok (.ireturn, 1) := by decide +kernel
theorem d_L_law_882 : decode code 882 = .ok (.goto 96, 3) := by decide +kernel
theorem d_L_law_885 : decode code 885 = .ok (.aload_n 1, 1) := by decide +kernel
theorem d_L_law_886 : decode code 886 = .ok (.aload_n 0, 1) := by decide +kernel
theorem d_L_law_887 : decode code 887 = .ok (.iload 4, 2) := by decide +kernel
theorem d_L_law_889 : decode code 889 = .ok (.iconst 1, 1) := by decide +kernel
theorem d_L_law_890 : decode code 890 = .ok (.iadd, 1) := by decide +kernel
theorem d_L_law_891 : decode code 891 = .ok (.iaload, 1) := by decide +kernel
theorem d_L_law_892 : decode code 892 = .ok (.aload_n 0, 1) := by decide +kernel
theorem d_L_law_893 : decode code 893 = .ok (.iload 4, 2) := by decide +kernel
theorem d_L_law_895 : decode code 895 = .ok (.iconst 2, 1) := by decide +kernel
theorem d_L_law_896 : decode code 896 = .ok (.iadd, 1) := by decide +kernel
theorem d_L_law_897 : decode code 897 = .ok (.iaload, 1) := by decide +kernel
theorem d_L_law_898 : decode code 898 = .ok (.aload_n 3, 1) := by decide +kernel
theorem d_L_law_899 : decode code 899 = .ok (.invokestatic 101, 3) := by decide +kernel
theorem d_L_law_902 : decode code 902 = .ok (.istore 5, 2) := by decide +kernel
theorem d_L_law_904 : decode code 904 = .ok (.aload_n 2, 1) := by decide +kernel
theorem d_L_law_905 : decode code 905 = .ok (.aload_n 0, 1) := by decide +kernel
theorem d_L_law_906 : decode code 906 = .ok (.iload 4, 2) := by decide +kernel
theorem d_L_law_908 : decode code 908 = .ok (.iconst 1, 1) := by decide +kernel
theorem d_L_law_909 : decode code 909 = .ok (.iadd, 1) := by decide +kernel
theorem d_L_law_910 : decode code 910 = .ok (.iaload, 1) := by decide +kernel
theorem d_L_law_911 : decode code 911 = .ok (.aload_n 0, 1) := by decide +kernel
theorem d_L_law_912 : decode code 912 = .ok (.iload 4, 2) := by decide +kernel
theorem d_L_law_914 : decode code 914 = .ok (.iconst 2, 1) := by decide +kernel
theorem d_L_law_915 : decode code 915 = .ok (.iadd, 1) := by decide +kernel
theorem d_L_law_916 : decode code 916 = .ok (.iaload, 1) := by decide +kernel
theorem d_L_law_917 : decode code 917 = .ok (.invokevirtual 103, 3) := by decide +kernel
theorem d_L_law_920 : decode code 920 = .ok (.istore 6, 2) := by decide +kernel
theorem d_L_law_922 : decode code 922 = .ok (.aload_n 2, 1) := by decide +kernel
theorem d_L_law_923 : decode code 923 = .ok (.invokevirtual 58, 3) := by decide +kernel
theorem d_L_law_926 : decode code 926 = .ok (.iload 5, 2) := by decide +kernel
theorem d_L_law_928 : decode code 928 = .ok (.if_icmp .eq 5, 3) := by decide +kernel
theorem d_L_law_931 : decode code 931 = .ok (.iconst 0, 1) := by decide +kernel
theorem d_L_law_932 : decode code 932 = .ok (.ireturn, 1) := by decide +kernel
theorem d_L_law_933 : decode code 933 = .ok (.iload 5, 2) := by decide +kernel
theorem d_L_law_935 : decode code 935 = .ok (.ifCond .ne 15, 3) := by decide +kernel
theorem d_L_law_938 : decode code 938 = .ok (.aload_n 3, 1) := by decide +kernel
theorem d_L_law_939 : decode code 939 = .ok (.iconst 0, 1) := by decide +kernel
theorem d_L_law_940 : decode code 940 = .ok (.laload, 1) := by decide +kernel
theorem d_L_law_941 : decode code 941 = .ok (.iload 6, 2) := by decide +kernel
theorem d_L_law_943 : decode code 943 = .ok (.i2l, 1) := by decide +kernel
theorem d_L_law_944 : decode code 944 = .ok (.lcmp, 1) := by decide +kernel
theorem d_L_law_945 : decode code 945 = .ok (.ifCond .eq 5, 3) := by decide +kernel
theorem d_L_law_948 : decode code 948 = .ok (.iconst 0, 1) := by decide +kernel
theorem d_L_law_949 : decode code 949 = .ok (.ireturn, 1) := by decide +kernel
theorem d_L_law_950 : decode code 950 = .ok (.goto 28, 3) := by decide +kernel
theorem d_L_law_953 : decode code 953 = .ok (.aload_n 1, 1) := by decide +kernel
theorem d_L_law_954 : decode code 954 = .ok (.aload_n 0, 1) := by decide +kernel
theorem d_L_law_955 : decode code 955 = .ok (.iload 4, 2) := by decide +kernel
theorem d_L_law_957 : decode code 957 = .ok (.iconst 1, 1) := by decide +kernel
theorem d_L_law_958 : decode code 958 = .ok (.iadd, 1) := by decide +kernel
theorem d_L_law_959 : decode code 959 = .ok (.iaload, 1) := by decide +kernel
theorem d_L_law_960 : decode code 960 = .ok (.invokevirtual 104, 3) := by decide +kernel
theorem d_L_law_963 : decode code 963 = .ok (.aload_n 2, 1) := by decide +kernel
theorem d_L_law_964 : decode code 964 = .ok (.aload_n 0, 1) := by decide +kernel
theorem d_L_law_965 : decode code 965 = .ok (.iload 4, 2) := by decide +kernel
theorem d_L_law_967 : decode code 967 = .ok (.iconst 1, 1) := by decide +kernel
theorem d_L_law_968 : decode code 968 = .ok (.iadd, 1) := by decide +kernel
theorem d_L_law_969 : decode code 969 = .ok (.iaload, 1) := by decide +kernel
theorem d_L_law_970 : decode code 970 = .ok (.invokevirtual 107, 3) := by decide +kernel
theorem d_L_law_973 : decode code 973 = .ok (.if_icmp .eq 5, 3) := by decide +kernel
theorem d_L_law_976 : decode code 976 = .ok (.iconst 0, 1) := by decide +kernel
theorem d_L_law_977 : decode code 977 = .ok (.ireturn, 1) := by decide +kernel
theorem d_L_law_978 : decode code 978 = .ok (.iinc 4 8, 3) := by decide +kernel
theorem d_L_law_981 : decode code 981 = .ok (.goto (-958), 3) := by decide +kernel
theorem d_L_law_984 : decode code 984 = .ok (.iconst 1, 1) := by decide +kernel
theorem d_L_law_985 : decode code 985 = .ok (.ireturn, 1) := by decide +kernel

