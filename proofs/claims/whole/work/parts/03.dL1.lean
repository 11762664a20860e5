/-! printed by wip/whole/gen_names.py: decode rows -/
theorem dL_law_682 : decode code 682 = .ok (.i2l, 1) := by decide +kernel
theorem dL_law_683 : decode code 683 = .ok (.lcmp, 1) := by decide +kernel
theorem dL_law_684 : decode code 684 = .ok (.ifCond .eq 5, 3) := by decide +kernel
theorem dL_law_687 : decode code 687 = .ok (.iconst 0, 1) := by decide +kernel
theorem dL_law_688 : decode code 688 = .ok (.ireturn, 1) := by decide +kernel
theorem dL_law_689 : decode code 689 = .ok (.goto 566, 3) := by decide +kernel
theorem dL_law_692 : decode code 692 = .ok (.aload_n 1, 1) := by decide +kernel
theorem dL_law_693 : decode code 693 = .ok (.aload_n 0, 1) := by decide +kernel
theorem dL_law_694 : decode code 694 = .ok (.iload 4, 2) := by decide +kernel
theorem dL_law_696 : decode code 696 = .ok (.iconst 1, 1) := by decide +kernel
theorem dL_law_697 : decode code 697 = .ok (.iadd, 1) := by decide +kernel
theorem dL_law_698 : decode code 698 = .ok (.iaload, 1) := by decide +kernel
theorem dL_law_699 : decode code 699 = .ok (.aload_n 0, 1) := by decide +kernel
theorem dL_law_700 : decode code 700 = .ok (.iload 4, 2) := by decide +kernel
theorem dL_law_702 : decode code 702 = .ok (.iconst 2, 1) := by decide +kernel
theorem dL_law_703 : decode code 703 = .ok (.iadd, 1) := by decide +kernel
theorem dL_law_704 : decode code 704 = .ok (.iaload, 1) := by decide +kernel
theorem dL_law_705 : decode code 705 = .ok (.aload_n 3, 1) := by decide +kernel
theorem dL_law_706 : decode code 706 = .ok (.invokestatic 118, 3) := by decide +kernel
theorem dL_law_709 : decode code 709 = .ok (.istore 5, 2) := by decide +kernel
theorem dL_law_711 : decode code 711 = .ok (.aload_n 2, 1) := by decide +kernel
theorem dL_law_712 : decode code 712 = .ok (.aload_n 0, 1) := by decide +kernel
theorem dL_law_713 : decode code 713 = .ok (.iload 4, 2) := by decide +kernel
theorem dL_law_715 : decode code 715 = .ok (.iconst 1, 1) := by decide +kernel
theorem dL_law_716 : decode code 716 = .ok (.iadd, 1) := by decide +kernel
theorem dL_law_717 : decode code 717 = .ok (.iaload, 1) := by decide +kernel
theorem dL_law_718 : decode code 718 = .ok (.aload_n 0, 1) := by decide +kernel
theorem dL_law_719 : decode code 719 = .ok (.iload 4, 2) := by decide +kernel
theorem dL_law_721 : decode code 721 = .ok (.iconst 2, 1) := by decide +kernel
theorem dL_law_722 : decode code 722 = .ok (.iadd, 1) := by decide +kernel
theorem dL_law_723 : decode code 723 = .ok (.iaload, 1) := by decide +kernel
theorem dL_law_724 : decode code 724 = .ok (.invokevirtual 120, 3) := by decide +kernel
theorem dL_law_727 : decode code 727 = .ok (.istore 6, 2) := by decide +kernel
theorem dL_law_729 : decode code 729 = .ok (.aload_n 2, 1) := by decide +kernel
theorem dL_law_730 : decode code 730 = .ok (.invokevirtual 87, 3) := by decide +kernel
theorem dL_law_733 : decode code 733 = .ok (.iload 5, 2) := by decide +kernel
theorem dL_law_735 : decode code 735 = .ok (.if_icmp .eq 5, 3) := by decide +kernel
theorem dL_law_738 : decode code 738 = .ok (.iconst 0, 1) := by decide +kernel
theorem dL_law_739 : decode code 739 = .ok (.ireturn, 1) := by decide +kernel
theorem dL_law_740 : decode code 740 = .ok (.iload 5, 2) := by decide +kernel
theorem dL_law_742 : decode code 742 = .ok (.ifCond .ne 15, 3) := by decide +kernel
theorem dL_law_745 : decode code 745 = .ok (.aload_n 3, 1) := by decide +kernel
theorem dL_law_746 : decode code 746 = .ok (.iconst 0, 1) := by decide +kernel
theorem dL_law_747 : decode code 747 = .ok (.laload, 1) := by decide +kernel
theorem dL_law_748 : decode code 748 = .ok (.iload 6, 2) := by decide +kernel
theorem dL_law_750 : decode code 750 = .ok (.i2l, 1) := by decide +kernel
theorem dL_law_751 : decode code 751 = .ok (.lcmp, 1) := by decide +kernel
theorem dL_law_752 : decode code 752 = .ok (.ifCond .eq 5, 3) := by decide +kernel
theorem dL_law_755 : decode code 755 = .ok (.iconst 0, 1) := by decide +kernel
theorem dL_law_756 : decode code 756 = .ok (.ireturn, 1) := by decide +kernel
theorem dL_law_757 : decode code 757 = .ok (.goto 498, 3) := by decide +kernel
theorem dL_law_760 : decode code 760 = .ok (.aload_n 1, 1) := by decide +kernel
theorem dL_law_761 : decode code 761 = .ok (.aload_n 0, 1) := by decide +kernel
theorem dL_law_762 : decode code 762 = .ok (.iload 4, 2) := by decide +kernel
theorem dL_law_764 : decode code 764 = .ok (.iconst 1, 1) := by decide +kernel
theorem dL_law_765 : decode code 765 = .ok (.iadd, 1) := by decide +kernel
theorem dL_law_766 : decode code 766 = .ok (.iaload, 1) := by decide +kernel
theorem dL_law_767 : decode code 767 = .ok (.aload_n 0, 1) := by decide +kernel
theorem dL_law_768 : decode code 768 = .ok (.iload 4, 2) := by decide +kernel
theorem dL_law_770 : decode code 770 = .ok (.iconst 2, 1) := by decide +kernel
theorem dL_law_771 : decode code 771 = .ok (.iadd, 1) := by decide +kernel
theorem dL_law_772 : decode code 772 = .ok (.iaload, 1) := by decide +kernel
theorem dL_law_773 : decode code 773 = .ok (.aload_n 3, 1) := by decide +kernel
theorem dL_law_774 : decode code 774 = .ok (.invokestatic 121, 3) := by decide +kernel
theorem dL_law_777 : decode code 777 = .ok (.istore 5, 2) := by decide +kernel
theorem dL_law_779 : decode code 779 = .ok (.aload_n 2, 1) := by decide +kernel
theorem dL_law_780 : decode code 780 = .ok (.aload_n 0, 1) := by decide +kernel
theorem dL_law_781 : decode code 781 = .ok (.iload 4, 2) := by decide +kernel
theorem dL_law_783 : decode code 783 = .ok (.iconst 1, 1) := by decide +kernel
theorem dL_law_784 : decode code 784 = .ok (.iadd, 1) := by decide +kernel
theorem dL_law_785 : decode code 785 = .ok (.iaload, 1) := by decide +kernel
theorem dL_law_786 : decode code 786 = .ok (.aload_n 0, 1) := by decide +kernel
theorem dL_law_787 : decode code 787 = .ok (.iload 4, 2) := by decide +kernel
theorem dL_law_789 : decode code 789 = .ok (.iconst 2, 1) := by decide +kernel
theorem dL_law_790 : decode code 790 = .ok (.iadd, 1) := by decide +kernel
theorem dL_law_791 : decode code 791 = .ok (.iaload, 1) := by decide +kernel
theorem dL_law_792 : decode code 792 = .ok (.invokevirtual 123, 3) := by decide +kernel
theorem dL_law_795 : decode code 795 = .ok (.istore 6, 2) := by decide +kernel
theorem dL_law_797 : decode code 797 = .ok (.aload_n 2, 1) := by decide +kernel
theorem dL_law_798 : decode code 798 = .ok (.invokevirtual 87, 3) := by decide +kernel
theorem dL_law_801 : decode code 801 = .ok (.iload 5, 2) := by decide +kernel
theorem dL_law_803 : decode code 803 = .ok (.if_icmp .eq 5, 3) := by decide +kernel
theorem dL_law_806 : decode code 806 = .ok (.iconst 0, 1) := by decide +kernel
theorem dL_law_807 : decode code 807 = .ok (.ireturn, 1) := by decide +kernel
theorem dL_law_808 : decode code 808 = .ok (.iload 5, 2) := by decide +kernel
theorem dL_law_810 : decode code 810 = .ok (.ifCond .ne 15, 3) := by decide +kernel
theorem dL_law_813 : decode code 813 = .ok (.aload_n 3, 1) := by decide +kernel
theorem dL_law_814 : decode code 814 = .ok (.iconst 0, 1) := by decide +kernel
theorem dL_law_815 : decode code 815 = .ok (.laload, 1) := by decide +kernel
theorem dL_law_816 : decode code 816 = .ok (.iload 6, 2) := by decide +kernel
theorem dL_law_818 : decode code 818 = .ok (.i2l, 1) := by decide +kernel
theorem dL_law_819 : decode code 819 = .ok (.lcmp, 1) := by decide +kernel
theorem dL_law_820 : decode code 820 = .ok (.ifCond .eq 5, 3) := by decide +kernel
theorem dL_law_823 : decode code 823 = .ok (.iconst 0, 1) := by decide +kernel
theorem dL_law_824 : decode code 824 = .ok (.ireturn, 1) := by decide +kernel
theorem dL_law_825 : decode code 825 = .ok (.goto 430, 3) := by decide +kernel
theorem dL_law_828 : decode code 828 = .ok (.aload_n 1, 1) := by decide +kernel
theorem dL_law_829 : decode code 829 = .ok (.aload_n 3, 1) := by decide +kernel
theorem dL_law_830 : decode code 830 = .ok (.invokestatic 124, 3) := by decide +kernel
theorem dL_law_833 : decode code 833 = .ok (.istore 5, 2) := by decide +kernel
theorem dL_law_835 : decode code 835 = .ok (.aload_n 2, 1) := by decide +kernel
theorem dL_law_836 : decode code 836 = .ok (.invokevirtual 127, 3) := by decide +kernel
theorem dL_law_839 : decode code 839 = .ok (.istore 6, 2) := by decide +kernel
theorem dL_law_841 : decode code 841 = .ok (.aload_n 2, 1) := by decide +kernel
theorem dL_law_842 : decode code 842 = .ok (.invokevirtual 87, 3) := by decide +kernel
theorem dL_law_845 : decode code 845 = .ok (.iload 5, 2) := by decide +kernel
theorem dL_law_847 : decode code 847 = .ok (.if_icmp .eq 5, 3) := by decide +kernel
theorem dL_law_850 : decode code 850 = .ok (.iconst 0, 1) := by decide +kernel
theorem dL_law_851 : decode code 851 = .ok (.ireturn, 1) := by decide +kernel
theorem dL_law_852 : decode code 852 = .ok (.iload 5, 2) := by decide +kernel
theorem dL_law_854 : decode code 854 = .ok (.ifCond .ne 15, 3) := by decide +kernel
theorem dL_law_857 : decode code 857 = .ok (.aload_n 3, 1) := by decide +kernel
theorem dL_law_858 : decode code 858 = .ok (.iconst 0, 1) := by decide +kernel
theorem dL_law_859 : decode code 859 = .ok (.laload, 1) := by decide +kernel
theorem dL_law_860 : decode code 860 = .ok (.iload 6, 2) := by decide +kernel
theorem dL_law_862 : decode code 862 = .ok (.i2l, 1) := by decide +kernel
theorem dL_law_863 : decode code 863 = .ok (.lcmp, 1) := by decide +kernel
theorem dL_law_864 : decode code 864 = .ok (.ifCond .eq 5, 3) := by decide +kernel
theorem dL_law_867 : decode code 867 = .ok (.iconst 0, 1) := by decide +kernel
theorem dL_law_868 : decode code 868 = .ok (.ireturn, 1) := by decide +kernel
theorem dL_law_869 : decode code 869 = .ok (.goto 386, 3) := by decide +kernel
theorem dL_law_872 : decode code 872 = .ok (.aload_n 1, 1) := by decide +kernel
theorem dL_law_873 : decode code 873 = .ok (.aload_n 0, 1) := by decide +kernel
theorem dL_law_874 : decode code 874 = .ok (.iload 4, 2) := by decide +kernel
theorem dL_law_876 : decode code 876 = .ok (.iconst 1, 1) := by decide +kernel
theorem dL_law_877 : decode code 877 = .ok (.iadd, 1) := by decide +kernel
theorem dL_law_878 : decode code 878 = .ok (.iaload, 1) := by decide +kernel
theorem dL_law_879 : decode code 879 = .ok (.aload_n 3, 1) := by decide +kernel
theorem dL_law_880 : decode code 880 = .ok (.invokestatic 128, 3) := by decide +kernel
theorem dL_law_883 : decode code 883 = .ok (.istore 5, 2) := by decide +kernel
theorem dL_law_885 : decode code 885 = .ok (.aload_n 2, 1) := by decide +kernel
theorem dL_law_886 : decode code 886 = .ok (.aload_n 0, 1) := by decide +kernel
theorem dL_law_887 : decode code 887 = .ok (.iload 4, 2) := by decide +kernel
theorem dL_law_889 : decode code 889 = .ok (.iconst 1, 1) := by decide +kernel
theorem dL_law_890 : decode code 890 = .ok (.iadd, 1) := by decide +kernel
theorem dL_law_891 : decode code 891 = .ok (.iaload, 1) := by decide +kernel
theorem dL_law_892 : decode code 892 = .ok (.invokevirtual 130, 3) := by decide +kernel
theorem dL_law_895 : decode code 895 = .ok (.istore 6, 2) := by decide +kernel
theorem dL_law_897 : decode code 897 = .ok (.aload_n 2, 1) := by decide +kernel
theorem dL_law_898 : decode code 898 = .ok (.invokevirtual 87, 3) := by decide +kernel
theorem dL_law_901 : decode code 901 = .ok (.iload 5, 2) := by decide +kernel
theorem dL_law_903 : decode code 903 = .ok (.if_icmp .eq 5, 3) := by decide +kernel
theorem dL_law_906 : decode code 906 = .ok (.iconst 0, 1) := by decide +kernel
theorem dL_law_907 : decode code 907 = .ok (.ireturn, 1) := by decide +kernel
theorem dL_law_908 : decode code 908 = .ok (.iload 5, 2) := by decide +kernel
theorem dL_law_910 : decode code 910 = .ok (.ifCond .ne 15, 3) := by decide +kernel
theorem dL_law_913 : decode code 913 = .ok (.aload_n 3, 1) := by decide +kernel
theorem dL_law_914 : decode code 914 = .ok (.iconst 0, 1) := by decide +kernel
theorem dL_law_915 : decode code 915 = .ok (.laload, 1) := by decide +kernel
theorem dL_law_916 : decode code 916 = .ok (.iload 6, 2) := by decide +kernel
theorem dL_law_918 : decode code 918 = .ok (.i2l, 1) := by decide +kernel
theorem dL_law_919 : decode code 919 = .ok (.lcmp, 1) := by decide +kernel
theorem dL_law_920 : decode code 920 = .ok (.ifCond .eq 5, 3) := by decide +kernel
theorem dL_law_923 : decode code 923 = .ok (.iconst 0, 1) := by decide +kernel
theorem dL_law_924 : decode code 924 = .ok (.ireturn, 1) := by decide +kernel
theorem dL_law_925 : decode code 925 = .ok (.goto 330, 3) := by decide +kernel
theorem dL_law_928 : decode code 928 = .ok (.aload_n 1, 1) := by decide +kernel
theorem dL_law_929 : decode code 929 = .ok (.aload_n 0, 1) := by decide +kernel
theorem dL_law_930 : decode code 930 = .ok (.iload 4, 2) := by decide +kernel
theorem dL_law_932 : decode code 932 = .ok (.iconst 1, 1) := by decide +kernel
theorem dL_law_933 : decode code 933 = .ok (.iadd, 1) := by decide +kernel
theorem dL_law_934 : decode code 934 = .ok (.iaload, 1) := by decide +kernel
theorem dL_law_935 : decode code 935 = .ok (.aload_n 3, 1) := by decide +kernel
theorem dL_law_936 : decode code 936 = .ok (.invokestatic 131, 3) := by decide +kernel
theorem dL_law_939 : decode code 939 = .ok (.istore 5, 2) := by decide +kernel
theorem dL_law_941 : decode code 941 = .ok (.aload_n 2, 1) := by decide +kernel
theorem dL_law_942 : decode code 942 = .ok (.aload_n 0, 1) := by decide +kernel
theorem dL_law_943 : decode code 943 = .ok (.iload 4, 2) := by decide +kernel
theorem dL_law_945 : decode code 945 = .ok (.iconst 1, 1) := by decide +kernel
theorem dL_law_946 : decode code 946 = .ok (.iadd, 1) := by decide +kernel
theorem dL_law_947 : decode code 947 = .ok (.iaload, 1) := by decide +kernel
theorem dL_law_948 : decode code 948 = .ok (.invokevirtual 133, 3) := by decide +kernel
theorem dL_law_951 : decode code 951 = .ok (.istore 6, 2) := by decide +kernel
theorem dL_law_953 : decode code 953 = .ok (.aload_n 2, 1) := by decide +kernel
theorem dL_law_954 : decode code 954 = .ok (.invokevirtual 87, 3) := by decide +kernel
theorem dL_law_957 : decode code 957 = .ok (.iload 5, 2) := by decide +kernel
theorem dL_law_959 : decode code 959 = .ok (.if_icmp .eq 5, 3) := by decide +kernel
theorem dL_law_962 : decode code 962 = .ok (.iconst 0, 1) := by decide +kernel
theorem dL_law_963 : decode code 963 = .ok (.ireturn, 1) := by decide +kernel
theorem dL_law_964 : decode code 964 = .ok (.iload 5, 2) := by decide +kernel
theorem dL_law_966 : decode code 966 = .ok (.ifCond .ne 15, 3) := by decide +kernel
theorem dL_law_969 : decode code 969 = .ok (.aload_n 3, 1) := by decide +kernel
theorem dL_law_970 : decode code 970 = .ok (.iconst 0, 1) := by decide +kernel
theorem dL_law_971 : decode code 971 = .ok (.laload, 1) := by decide +kernel
theorem dL_law_972 : decode code 972 = .ok (.iload 6, 2) := by decide +kernel
theorem dL_law_974 : decode code 974 = .ok (.i2l, 1) := by decide +kernel
theorem dL_law_975 : decode code 975 = .ok (.lcmp, 1) := by decide +kernel
theorem dL_law_976 : decode code 976 = .ok (.ifCond .eq 5, 3) := by decide +kernel
theorem dL_law_979 : decode code 979 = .ok (.iconst 0, 1) := by decide +kernel
theorem dL_law_980 : decode code 980 = .ok (.ireturn, 1) := by decide +kernel
theorem dL_law_981 : decode code 981 = .ok (.goto 274, 3) := by decide +kernel
theorem dL_law_984 : decode code 984 = .ok (.aload_n 1, 1) := by decide +kernel
theorem dL_law_985 : decode code 985 = .ok (.aload_n 0, 1) := by decide +kernel
theorem dL_law_986 : decode code 986 = .ok (.iload 4, 2) := by decide +kernel
theorem dL_law_988 : decode code 988 = .ok (.iconst 1, 1) := by decide +kernel
theorem dL_law_989 : decode code 989 = .ok (.iadd, 1) := by decide +kernel
theorem dL_law_990 : decode code 990 = .ok (.iaload, 1) := by decide +kernel
theorem dL_law_991 : decode code 991 = .ok (.aload_n 3, 1) := by decide +kernel
theorem dL_law_992 : decode code 992 = .ok (.invokestatic 134, 3) := by decide +kernel
theorem dL_law_995 : decode code 995 = .ok (.istore 5, 2) := by decide +kernel
theorem dL_law_997 : decode code 997 = .ok (.aload_n 2, 1) := by decide +kernel
theorem dL_law_998 : decode code 998 = .ok (.aload_n 0, 1) := by decide +kernel
theorem dL_law_999 : decode code 999 = .ok (.iload 4, 2) := by decide +kernel
theorem dL_law_1001 : decode code 1001 = .ok (.iconst 1, 1) := by decide +kernel
theorem dL_law_1002 : decode code 1002 = .ok (.iadd, 1) := by decide +kernel
theorem dL_law_1003 : decode code 1003 = .ok (.iaload, 1) := by decide +kernel
theorem dL_law_1004 : decode code 1004 = .ok (.invokevirtual 136, 3) := by decide +kernel
theorem dL_law_1007 : decode code 1007 = .ok (.istore 6, 2) := by decide +kernel
theorem dL_law_1009 : decode code 1009 = .ok (.aload_n 2, 1) := by decide +kernel
theorem dL_law_1010 : decode code 1010 = .ok (.invokevirtual 87, 3) := by decide +kernel
theorem dL_law_1013 : decode code 1013 = .ok (.iload 5, 2) := by decide +kernel
theorem dL_law_1015 : decode code 1015 = .ok (.if_icmp .eq 5, 3) := by decide +kernel
theorem dL_law_1018 : decode code 1018 = .ok (.iconst 0, 1) := by decide +kernel
theorem dL_law_1019 : decode code 1019 = .ok (.ireturn, 1) := by decide +kernel
theorem dL_law_1020 : decode code 1020 = .ok (.iload 5, 2) := by decide +kernel
theorem dL_law_1022 : decode code 1022 = .ok (.ifCond .ne 15, 3) := by decide +kernel
theorem dL_law_1025 : decode code 1025 = .ok (.aload_n 3, 1) := by decide +kernel
theorem dL_law_1026 : decode code 1026 = .ok (.iconst 0, 1) := by decide +kernel
theorem dL_law_1027 : decode code 1027 = .ok (.laload, 1) := by decide +kernel
theorem dL_law_1028 : decode code 1028 = .ok (.iload 6, 2) := by decide +kernel
theorem dL_law_1030 : decode code 1030 = .ok (.i2l, 1) := by decide +kernel
theorem dL_law_1031 : decode code 1031 = .ok (.lcmp, 1) := by decide +kernel
theorem dL_law_1032 : decode code 1032 = .ok (.ifCond .eq 5, 3) := by decide +kernel
theorem dL_law_1035 : decode code 1035 = .ok (.iconst 0, 1) := by decide +kernel
theorem dL_law_1036 : decode code 1036 = .ok (.ireturn, 1) := by decide +kernel
theorem dL_law_1037 : decode code 1037 = .ok (.goto 218, 3) := by decide +kernel
theorem dL_law_1040 : decode code 1040 = .ok (.aload_n 1, 1) := by decide +kernel
theorem dL_law_1041 : decode code 1041 = .ok (.aload_n 0, 1) := by decide +kernel
theorem dL_law_1042 : decode code 1042 = .ok (.iload 4, 2) := by decide +kernel
theorem dL_law_1044 : decode code 1044 = .ok (.iconst 1, 1) := by decide +kernel
theorem dL_law_1045 : decode code 1045 = .ok (.iadd, 1) := by decide +kernel
theorem dL_law_1046 : decode code 1046 = .ok (.iaload, 1) := by decide +kernel
theorem dL_law_1047 : decode code 1047 = .ok (.ifCond .eq 7, 3) := by decide +kernel
theorem dL_law_1050 : decode code 1050 = .ok (.iconst 1, 1) := by decide +kernel
theorem dL_law_1051 : decode code 1051 = .ok (.goto 4, 3) := by decide +kernel
theorem dL_law_1054 : decode code 1054 = .ok (.iconst 0, 1) := by decide +kernel
theorem dL_law_1055 : decode code 1055 = .ok (.aload_n 0, 1) := by decide +kernel
theorem dL_law_1056 : decode code 1056 = .ok (.iload 4, 2) := by decide +kernel
theorem dL_law_1058 : decode code 1058 = .ok (.iconst 2, 1) := by decide +kernel
theorem dL_law_1059 : decode code 1059 = .ok (.iadd, 1) := by decide +kernel
theorem dL_law_1060 : decode code 1060 = .ok (.iaload, 1) := by decide +kernel
theorem dL_law_1061 : decode code 1061 = .ok (.aload_n 0, 1) := by decide +kernel
theorem dL_law_1062 : decode code 1062 = .ok (.iload 4, 2) := by decide +kernel
theorem dL_law_1064 : decode code 1064 = .ok (.iconst 3, 1) := by decide +kernel
theorem dL_law_1065 : decode code 1065 = .ok (.iadd, 1) := by decide +kernel
theorem dL_law_1066 : decode code 1066 = .ok (.iaload, 1) := by decide +kernel
theorem dL_law_1067 : decode code 1067 = .ok (.aload_n 3, 1) := by decide +kernel
theorem dL_law_1068 : decode code 1068 = .ok (.invokestatic 137, 3) := by decide +kernel
theorem dL_law_1071 : decode code 1071 = .ok (.istore 5, 2) := by decide +kernel
theorem dL_law_1073 : decode code 1073 = .ok (.aload_n 2, 1) := by decide +kernel
theorem dL_law_1074 : decode code 1074 = .ok (.aload_n 0, 1) := by decide +kernel
theorem dL_law_1075 : decode code 1075 = .ok (.iload 4, 2) := by decide +kernel
theorem dL_law_1077 : decode code 1077 = .ok (.iconst 1, 1) := by decide +kernel
theorem dL_law_1078 : decode code 1078 = .ok (.iadd, 1) := by decide +kernel
theorem dL_law_1079 : decode code 1079 = .ok (.iaload, 1) := by decide +kernel
theorem dL_law_1080 : decode code 1080 = .ok (.ifCond .eq 7, 3) := by decide +kernel
theorem dL_law_1083 : decode code 1083 = .ok (.iconst 1, 1) := by decide +kernel
theorem dL_law_1084 : decode code 1084 = .ok (.goto 4, 3) := by decide +kernel
theorem dL_law_1087 : decode code 1087 = .ok (.iconst 0, 1) := by decide +kernel
theorem dL_law_1088 : decode code 1088 = .ok (.aload_n 0, 1) := by decide +kernel
theorem dL_law_1089 : decode code 1089 = .ok (.iload 4, 2) := by decide +kernel
theorem dL_law_1091 : decode code 1091 = .ok (.iconst 2, 1) := by decide +kernel
theorem dL_law_1092 : decode code 1092 = .ok (.iadd, 1) := by decide +kernel
theorem dL_law_1093 : decode code 1093 = .ok (.iaload, 1) := by decide +kernel
theorem dL_law_1094 : decode code 1094 = .ok (.aload_n 0, 1) := by decide +kernel
theorem dL_law_1095 : decode code 1095 = .ok (.iload 4, 2) := by decide +kernel
theorem dL_law_1097 : decode code 1097 = .ok (.iconst 3, 1) := by decide +kernel
theorem dL_law_1098 : decode code 1098 = .ok (.iadd, 1) := by decide +kernel
theorem dL_law_1099 : decode code 1099 = .ok (.iaload, 1) := by decide +kernel
theorem dL_law_1100 : decode code 1100 = .ok (.invokevirtual 140, 3) := by decide +kernel
theorem dL_law_1103 : decode code 1103 = .ok (.istore 6, 2) := by decide +kernel
theorem dL_law_1105 : decode code 1105 = .ok (.aload_n 2, 1) := by decide +kernel
theorem dL_law_1106 : decode code 1106 = .ok (.invokevirtual 87, 3) := by decide +kernel
theorem dL_law_1109 : decode code 1109 = .ok (.iload 5, 2) := by decide +kernel
theorem dL_law_1111 : decode code 1111 = .ok (.if_icmp .eq 5, 3) := by decide +kernel
theorem dL_law_1114 : decode code 1114 = .ok (.iconst 0, 1) := by decide +kernel
theorem dL_law_1115 : decode code 1115 = .ok (.ireturn, 1) := by decide +kernel
theorem dL_law_1116 : decode code 1116 = .ok (.iload 5, 2) := by decide +kernel
theorem dL_law_1118 : decode code 1118 = .ok (.ifCond .ne 22, 3) := by decide +kernel
theorem dL_law_1121 : decode code 1121 = .ok (.aload_n 3, 1) := by decide +kernel
theorem dL_law_1122 : decode code 1122 = .ok (.iconst 0, 1) := by decide +kernel
theorem dL_law_1123 : decode code 1123 = .ok (.laload, 1) := by decide +kernel
theorem dL_law_1124 : decode code 1124 = .ok (.iload 6, 2) := by decide +kernel
theorem dL_law_1126 : decode code 1126 = .ok (.ifCond .eq 7, 3) := by decide +kernel
theorem dL_law_1129 : decode code 1129 = .ok (.lconst 1, 1) := by decide +kernel
theorem dL_law_1130 : decode code 1130 = .ok (.goto 4, 3) := by decide +kernel
theorem dL_law_1133 : decode code 1133 = .ok (.lconst 0, 1) := by decide +kernel
theorem dL_law_1134 : decode code 1134 = .ok (.lcmp, 1) := by decide +kernel
theorem dL_law_1135 : decode code 1135 = .ok (.ifCond .eq 5, 3) := by decide +kernel
theorem dL_law_1138 : decode code 1138 = .ok (.iconst 0, 1) := by decide +kernel
theorem dL_law_1139 : decode code 1139 = .ok (.ireturn, 1) := by decide +kernel
theorem dL_law_1140 : decode code 1140 = .ok (.goto 115, 3) := by decide +kernel
theorem dL_law_1143 : decode code 1143 = .ok (.aload_n 1, 1) := by decide +kernel
theorem dL_law_1144 : decode code 1144 = .ok (.aload_n 0, 1) := by decide +kernel
theorem dL_law_1145 : decode code 1145 = .ok (.iload 4, 2) := by decide +kernel
theorem dL_law_1147 : decode code 1147 = .ok (.iconst 1, 1) := by decide +kernel
theorem dL_law_1148 : decode code 1148 = .ok (.iadd, 1) := by decide +kernel
theorem dL_law_1149 : decode code 1149 = .ok (.iaload, 1) := by decide +kernel
theorem dL_law_1150 : decode code 1150 = .ok (.aload_n 3, 1) := by decide +kernel
theorem dL_law_1151 : decode code 1151 = .ok (.invokestatic 141, 3) := by decide +kernel
theorem dL_law_1154 : decode code 1154 = .ok (.istore 5, 2) := by decide +kernel
theorem dL_law_1156 : decode code 1156 = .ok (.aload_n 2, 1) := by decide +kernel
theorem dL_law_1157 : decode code 1157 = .ok (.aload_n 0, 1) := by decide +kernel
theorem dL_law_1158 : decode code 1158 = .ok (.iload 4, 2) := by decide +kernel
theorem dL_law_1160 : decode code 1160 = .ok (.iconst 1, 1) := by decide +kernel
theorem dL_law_1161 : decode code 1161 = .ok (.iadd, 1) := by decide +kernel
theorem dL_law_1162 : decode code 1162 = .ok (.iaload, 1) := by decide +kernel
theorem dL_law_1163 : decode code 1163 = .ok (.invokevirtual 143, 3) := by decide +kernel
theorem dL_law_1166 : decode code 1166 = .ok (.istore 6, 2) := by decide +kernel
theorem dL_law_1168 : decode code 1168 = .ok (.aload_n 2, 1) := by decide +kernel
theorem dL_law_1169 : decode code 1169 = .ok (.invokevirtual 87, 3) := by decide +kernel
theorem dL_law_1172 : decode code 1172 = .ok (.iload 5, 2) := by decide +kernel
theorem dL_law_1174 : decode code 1174 = .ok (.if_icmp .eq 5, 3) := by decide +kernel
theorem dL_law_1177 : decode code 1177 = .ok (.iconst 0, 1) := by decide +kernel
theorem dL_law_1178 : decode code 1178 = .ok (.ireturn, 1) := by decide +kernel
theorem dL_law_1179 : decode code 1179 = .ok (.iload 5, 2) := by decide +kernel
theorem dL_law_1181 : decode code 1181 = .ok (.ifCond .ne 15, 3) := by decide +kernel
theorem dL_law_1184 : decode code 1184 = .ok (.aload_n 3, 1) := by decide +kernel
theorem dL_law_1185 : decode code 1185 = .ok (.iconst 0, 1) := by decide +kernel
theorem dL_law_1186 : decode code 1186 = .ok (.laload, 1) := by decide +kernel
theorem dL_law_1187 : decode code 1187 = .ok (.iload 6, 2) := by decide +kernel
theorem dL_law_1189 : decode code 1189 = .ok (.i2l, 1) := by decide +kernel
theorem dL_law_1190 : decode code 1190 = .ok (.lcmp, 1) := by decide +kernel
theorem dL_law_1191 : decode code 1191 = .ok (.ifCond .eq 5, 3) := by decide +kernel
theorem dL_law_1194 : decode code 1194 = .ok (.iconst 0, 1) := by decide +kernel
theorem dL_law_1195 : decode code 1195 = .ok (.ireturn, 1) := by decide +kernel
theorem dL_law_1196 : decode code 1196 = .ok (.goto 59, 3) := by decide +kernel
theorem dL_law_1199 : decode code 1199 = .ok (.aload_n 1, 1) := by decide +kernel
theorem dL_law_1200 : decode code 1200 = .ok (.aload_n 0, 1) := by decide +kernel
theorem dL_law_1201 : decode code 1201 = .ok (.iload 4, 2) := by decide +kernel
theorem dL_law_1203 : decode code 1203 = .ok (.iconst 1, 1) := by decide +kernel
theorem dL_law_1204 : decode code 1204 = .ok (.iadd, 1) := by decide +kernel
theorem dL_law_1205 : decode code 1205 = .ok (.iaload, 1) := by decide +kernel
theorem dL_law_1206 : decode code 1206 = .ok (.aload_n 3, 1) := by decide +kernel
theorem dL_law_1207 : decode code 1207 = .ok (.invokestatic 144, 3) := by decide +kernel
theorem dL_law_1210 : decode code 1210 = .ok (.istore 5, 2) := by decide +kernel
theorem dL_law_1212 : decode code 1212 = .ok (.aload_n 2, 1) := by decide +kernel
theorem dL_law_1213 : decode code 1213 = .ok (.aload_n 0, 1) := by decide +kernel
theorem dL_law_1214 : decode code 1214 = .ok (.iload 4, 2) := by decide +kernel
theorem dL_law_1216 : decode code 1216 = .ok (.iconst 1, 1) := by decide +kernel
theorem dL_law_1217 : decode code 1217 = .ok (.iadd, 1) := by decide +kernel
theorem dL_law_1218 : decode code 1218 = .ok (.iaload, 1) := by decide +kernel
theorem dL_law_1219 : decode code 1219 = .ok (.invokevirtual 146, 3) := by decide +kernel
theorem dL_law_1222 : decode code 1222 = .ok (.istore 6, 2) := by decide +kernel
theorem dL_law_1224 : decode code 1224 = .ok (.aload_n 2, 1) := by decide +kernel
theorem dL_law_1225 : decode code 1225 = .ok (.invokevirtual 87, 3) := by decide +kernel
theorem dL_law_1228 : decode code 1228 = .ok (.iload 5, 2) := by decide +kernel
theorem dL_law_1230 : decode code 1230 = .ok (.if_icmp .eq 5, 3) := by decide +kernel
theorem dL_law_1233 : decode code 1233 = .ok (.iconst 0, 1) := by decide +kernel
theorem dL_law_1234 : decode code 1234 = .ok (.ireturn, 1) := by decide +kernel
theorem dL_law_1235 : decode code 1235 = .ok (.iload 5, 2) := by decide +kernel
theorem dL_law_1237 : decode code 1237 = .ok (.ifCond .ne 15, 3) := by decide +kernel
theorem dL_law_1240 : decode code 1240 = .ok (.aload_n 3, 1) := by decide +kernel
theorem dL_law_1241 : decode code 1241 = .ok (.iconst 0, 1) := by decide +kernel
theorem dL_law_1242 : decode code 1242 = .ok (.laload, 1) := by decide +kernel
theorem dL_law_1243 : decode code 1243 = .ok (.iload 6, 2) := by decide +kernel
theorem dL_law_1245 : decode code 1245 = .ok (.i2l, 1) := by decide +kernel
theorem dL_law_1246 : decode code 1246 = .ok (.lcmp, 1) := by decide +kernel
theorem dL_law_1247 : decode code 1247 = .ok (.ifCond .eq 5, 3) := by decide +kernel
theorem dL_law_1250 : decode code 1250 = .ok (.iconst 0, 1) := by decide +kernel
theorem dL_law_1251 : decode code 1251 = .ok (.ireturn, 1) := by decide +kernel
theorem dL_law_1252 : decode code 1252 = .ok (.goto 3, 3) := by decide +kernel
theorem dL_law_1255 : decode code 1255 = .ok (.iinc 4 5, 3) := by decide +kernel
theorem dL_law_1258 : decode code 1258 = .ok (.goto (-1235), 3) := by decide +kernel
theorem dL_law_1261 : decode code 1261 = .ok (.iconst 1, 1) := by decide +kernel
theorem dL_law_1262 : decode code 1262 = .ok (.ireturn, 1) := by decide +kernel
