theorem d_L_law_662 : decode code 662 = .ok (.istore 6, 2) := by decide +kernel
theorem d_L_law_664 : decode code 664 = .ok (.aload_n 2, 1) := by decide +kernel
theorem d_L_law_665 : decode code 665 = .ok (.invokevirtual 82, 3) := by decide +kernel
theorem d_L_law_668 : decode code 668 = .ok (.iload 5, 2) := by decide +kernel
theorem d_L_law_670 : decode code 670 = .ok (.if_icmp .eq 5, 3) := by decide +kernel
theorem d_L_law_673 : decode code 673 = .ok (.iconst 0, 1) := by decide +kernel
theorem d_L_law_674 : decode code 674 = .ok (.ireturn, 1) := by decide +kernel
theorem d_L_law_675 : decode code 675 = .ok (.iload 5, 2) := by decide +kernel
theorem d_L_law_677 : decode code 677 = .ok (.ifCond .ne 15, 3) := by decide +kernel
theorem d_L_law_680 : decode code 680 = .ok (.aload_n 3, 1) := by decide +kernel
theorem d_L_law_681 : decode code 681 = .ok (.iconst 0, 1) := by decide +kernel
theorem d_L_law_682 : decode code 682 = .ok (.laload, 1) := by decide +kernel
theorem d_L_law_683 : decode code 683 = .ok (.iload 6, 2) := by decide +kernel
theorem d_L_law_685 : decode code 685 = .ok (.i2l, 1) := by decide +kernel
theorem d_L_law_686 : decode code 686 = .ok (.lcmp, 1) := by decide +kernel
theorem d_L_law_687 : decode code 687 = .ok (.ifCond .eq 5, 3) := by decide +kernel
theorem d_L_law_690 : decode code 690 = .ok (.iconst 0, 1) := by decide +kernel
theorem d_L_law_691 : decode code 691 = .ok (.ireturn, 1) := by decide +kernel
theorem d_L_law_692 : decode code 692 = .ok (.goto 517, 3) := by decide +kernel
theorem d_L_law_695 : decode code 695 = .ok (.aload_n 1, 1) := by decide +kernel
theorem d_L_law_696 : decode code 696 = .ok (.aload_n 0, 1) := by decide +kernel
theorem d_L_law_697 : decode code 697 = .ok (.iload 4, 2) := by decide +kernel
theorem d_L_law_699 : decode code 699 = .ok (.iconst 1, 1) := by decide +kernel
theorem d_L_law_700 : decode code 700 = .ok (.iadd, 1) := by decide +kernel
theorem d_L_law_701 : decode code 701 = .ok (.iaload, 1) := by decide +kernel
theorem d_L_law_702 : decode code 702 = .ok (.aload_n 3, 1) := by decide +kernel
theorem d_L_law_703 : decode code 703 = .ok (.invokestatic 113, 3) := by decide +kernel
theorem d_L_law_706 : decode code 706 = .ok (.istore 5, 2) := by decide +kernel
theorem d_L_law_708 : decode code 708 = .ok (.aload_n 2, 1) := by decide +kernel
theorem d_L_law_709 : decode code 709 = .ok (.aload_n 0, 1) := by decide +kernel
theorem d_L_law_710 : decode code 710 = .ok (.iload 4, 2) := by decide +kernel
theorem d_L_law_712 : decode code 712 = .ok (.iconst 1, 1) := by decide +kernel
theorem d_L_law_713 : decode code 713 = .ok (.iadd, 1) := by decide +kernel
theorem d_L_law_714 : decode code 714 = .ok (.iaload, 1) := by decide +kernel
theorem d_L_law_715 : decode code 715 = .ok (.invokevirtual 115, 3) := by decide +kernel
theorem d_L_law_718 : decode code 718 = .ok (.istore 6, 2) := by decide +kernel
theorem d_L_law_720 : decode code 720 = .ok (.aload_n 2, 1) := by decide +kernel
theorem d_L_law_721 : decode code 721 = .ok (.invokevirtual 82, 3) := by decide +kernel
theorem d_L_law_724 : decode code 724 = .ok (.iload 5, 2) := by decide +kernel
theorem d_L_law_726 : decode code 726 = .ok (.if_icmp .eq 5, 3) := by decide +kernel
theorem d_L_law_729 : decode code 729 = .ok (.iconst 0, 1) := by decide +kernel
theorem d_L_law_730 : decode code 730 = .ok (.ireturn, 1) := by decide +kernel
theorem d_L_law_731 : decode code 731 = .ok (.iload 5, 2) := by decide +kernel
theorem d_L_law_733 : decode code 733 = .ok (.ifCond .ne 15, 3) := by decide +kernel
theorem d_L_law_736 : decode code 736 = .ok (.aload_n 3, 1) := by decide +kernel
theorem d_L_law_737 : decode code 737 = .ok (.iconst 0, 1) := by decide +kernel
theorem d_L_law_738 : decode code 738 = .ok (.laload, 1) := by decide +kernel
theorem d_L_law_739 : decode code 739 = .ok (.iload 6, 2) := by decide +kernel
theorem d_L_law_741 : decode code 741 = .ok (.i2l, 1) := by decide +kernel
theorem d_L_law_742 : decode code 742 = .ok (.lcmp, 1) := by decide +kernel
theorem d_L_law_743 : decode code 743 = .ok (.ifCond .eq 5, 3) := by decide +kernel
theorem d_L_law_746 : decode code 746 = .ok (.iconst 0, 1) := by decide +kernel
theorem d_L_law_747 : decode code 747 = .ok (.ireturn, 1) := by decide +kernel
theorem d_L_law_748 : decode code 748 = .ok (.goto 461, 3) := by decide +kernel
theorem d_L_law_751 : decode code 751 = .ok (.aload_n 1, 1) := by decide +kernel
theorem d_L_law_752 : decode code 752 = .ok (.aload_n 0, 1) := by decide +kernel
theorem d_L_law_753 : decode code 753 = .ok (.iload 4, 2) := by decide +kernel
theorem d_L_law_755 : decode code 755 = .ok (.iconst 1, 1) := by decide +kernel
theorem d_L_law_756 : decode code 756 = .ok (.iadd, 1) := by decide +kernel
theorem d_L_law_757 : decode code 757 = .ok (.iaload, 1) := by decide +kernel
theorem d_L_law_758 : decode code 758 = .ok (.aload_n 0, 1) := by decide +kernel
theorem d_L_law_759 : decode code 759 = .ok (.iload 4, 2) := by decide +kernel
theorem d_L_law_761 : decode code 761 = .ok (.iconst 2, 1) := by decide +kernel
theorem d_L_law_762 : decode code 762 = .ok (.iadd, 1) := by decide +kernel
theorem d_L_law_763 : decode code 763 = .ok (.iaload, 1) := by decide +kernel
theorem d_L_law_764 : decode code 764 = .ok (.invokestatic 116, 3) := by decide +kernel
theorem d_L_law_767 : decode code 767 = .ok (.istore 5, 2) := by decide +kernel
theorem d_L_law_769 : decode code 769 = .ok (.aload_n 2, 1) := by decide +kernel
theorem d_L_law_770 : decode code 770 = .ok (.aload_n 0, 1) := by decide +kernel
theorem d_L_law_771 : decode code 771 = .ok (.iload 4, 2) := by decide +kernel
theorem d_L_law_773 : decode code 773 = .ok (.iconst 1, 1) := by decide +kernel
theorem d_L_law_774 : decode code 774 = .ok (.iadd, 1) := by decide +kernel
theorem d_L_law_775 : decode code 775 = .ok (.iaload, 1) := by decide +kernel
theorem d_L_law_776 : decode code 776 = .ok (.aload_n 0, 1) := by decide +kernel
theorem d_L_law_777 : decode code 777 = .ok (.iload 4, 2) := by decide +kernel
theorem d_L_law_779 : decode code 779 = .ok (.iconst 2, 1) := by decide +kernel
theorem d_L_law_780 : decode code 780 = .ok (.iadd, 1) := by decide +kernel
theorem d_L_law_781 : decode code 781 = .ok (.iaload, 1) := by decide +kernel
theorem d_L_law_782 : decode code 782 = .ok (.invokevirtual 119, 3) := by decide +kernel
theorem d_L_law_785 : decode code 785 = .ok (.aload_n 2, 1) := by decide +kernel
theorem d_L_law_786 : decode code 786 = .ok (.invokevirtual 82, 3) := by decide +kernel
theorem d_L_law_789 : decode code 789 = .ok (.iload 5, 2) := by decide +kernel
theorem d_L_law_791 : decode code 791 = .ok (.if_icmp .eq 5, 3) := by decide +kernel
theorem d_L_law_794 : decode code 794 = .ok (.iconst 0, 1) := by decide +kernel
theorem d_L_law_795 : decode code 795 = .ok (.ireturn, 1) := by decide +kernel
theorem d_L_law_796 : decode code 796 = .ok (.goto 413, 3) := by decide +kernel
theorem d_L_law_799 : decode code 799 = .ok (.aload_n 1, 1) := by decide +kernel
theorem d_L_law_800 : decode code 800 = .ok (.aload_n 0, 1) := by decide +kernel
theorem d_L_law_801 : decode code 801 = .ok (.iload 4, 2) := by decide +kernel
theorem d_L_law_803 : decode code 803 = .ok (.iconst 1, 1) := by decide +kernel
theorem d_L_law_804 : decode code 804 = .ok (.iadd, 1) := by decide +kernel
theorem d_L_law_805 : decode code 805 = .ok (.iaload, 1) := by decide +kernel
theorem d_L_law_806 : decode code 806 = .ok (.aload_n 0, 1) := by decide +kernel
theorem d_L_law_807 : decode code 807 = .ok (.iload 4, 2) := by decide +kernel
theorem d_L_law_809 : decode code 809 = .ok (.iconst 2, 1) := by decide +kernel
theorem d_L_law_810 : decode code 810 = .ok (.iadd, 1) := by decide +kernel
theorem d_L_law_811 : decode code 811 = .ok (.iaload, 1) := by decide +kernel
theorem d_L_law_812 : decode code 812 = .ok (.invokestatic 120, 3) := by decide +kernel
theorem d_L_law_815 : decode code 815 = .ok (.istore 5, 2) := by decide +kernel
theorem d_L_law_817 : decode code 817 = .ok (.aload_n 2, 1) := by decide +kernel
theorem d_L_law_818 : decode code 818 = .ok (.aload_n 0, 1) := by decide +kernel
theorem d_L_law_819 : decode code 819 = .ok (.iload 4, 2) := by decide +kernel
theorem d_L_law_821 : decode code 821 = .ok (.iconst 1, 1) := by decide +kernel
theorem d_L_law_822 : decode code 822 = .ok (.iadd, 1) := by decide +kernel
theorem d_L_law_823 : decode code 823 = .ok (.iaload, 1) := by decide +kernel
theorem d_L_law_824 : decode code 824 = .ok (.aload_n 0, 1) := by decide +kernel
theorem d_L_law_825 : decode code 825 = .ok (.iload 4, 2) := by decide +kernel
theorem d_L_law_827 : decode code 827 = .ok (.iconst 2, 1) := by decide +kernel
theorem d_L_law_828 : decode code 828 = .ok (.iadd, 1) := by decide +kernel
theorem d_L_law_829 : decode code 829 = .ok (.iaload, 1) := by decide +kernel
theorem d_L_law_830 : decode code 830 = .ok (.invokevirtual 122, 3) := by decide +kernel
theorem d_L_law_833 : decode code 833 = .ok (.aload_n 2, 1) := by decide +kernel
theorem d_L_law_834 : decode code 834 = .ok (.invokevirtual 82, 3) := by decide +kernel
theorem d_L_law_837 : decode code 837 = .ok (.iload 5, 2) := by decide +kernel
theorem d_L_law_839 : decode code 839 = .ok (.if_icmp .eq 5, 3) := by decide +kernel
theorem d_L_law_842 : decode code 842 = .ok (.iconst 0, 1) := by decide +kernel
theorem d_L_law_843 : decode code 843 = .ok (.ireturn, 1) := by decide +kernel
theorem d_L_law_844 : decode code 844 = .ok (.goto 365, 3) := by decide +kernel
theorem d_L_law_847 : decode code 847 = .ok (.aload_n 1, 1) := by decide +kernel
theorem d_L_law_848 : decode code 848 = .ok (.aload_n 0, 1) := by decide +kernel
theorem d_L_law_849 : decode code 849 = .ok (.iload 4, 2) := by decide +kernel
theorem d_L_law_851 : decode code 851 = .ok (.iconst 1, 1) := by decide +kernel
theorem d_L_law_852 : decode code 852 = .ok (.iadd, 1) := by decide +kernel
theorem d_L_law_853 : decode code 853 = .ok (.iaload, 1) := by decide +kernel
theorem d_L_law_854 : decode code 854 = .ok (.aload_n 0, 1) := by decide +kernel
theorem d_L_law_855 : decode code 855 = .ok (.iload 4, 2) := by decide +kernel
theorem d_L_law_857 : decode code 857 = .ok (.iconst 2, 1) := by decide +kernel
theorem d_L_law_858 : decode code 858 = .ok (.iadd, 1) := by decide +kernel
theorem d_L_law_859 : decode code 859 = .ok (.iaload, 1) := by decide +kernel
theorem d_L_law_860 : decode code 860 = .ok (.aload_n 3, 1) := by decide +kernel
theorem d_L_law_861 : decode code 861 = .ok (.invokestatic 123, 3) := by decide +kernel
theorem d_L_law_864 : decode code 864 = .ok (.istore 5, 2) := by decide +kernel
theorem d_L_law_866 : decode code 866 = .ok (.aload_n 2, 1) := by decide +kernel
theorem d_L_law_867 : decode code 867 = .ok (.aload_n 0, 1) := by decide +kernel
theorem d_L_law_868 : decode code 868 = .ok (.iload 4, 2) := by decide +kernel
theorem d_L_law_870 : decode code 870 = .ok (.iconst 1, 1) := by decide +kernel
theorem d_L_law_871 : decode code 871 = .ok (.iadd, 1) := by decide +kernel
theorem d_L_law_872 : decode code 872 = .ok (.iaload, 1) := by decide +kernel
theorem d_L_law_873 : decode code 873 = .ok (.aload_n 0, 1) := by decide +kernel
theorem d_L_law_874 : decode code 874 = .ok (.iload 4, 2) := by decide +kernel
theorem d_L_law_876 : decode code 876 = .ok (.iconst 2, 1) := by decide +kernel
theorem d_L_law_877 : decode code 877 = .ok (.iadd, 1) := by decide +kernel
theorem d_L_law_878 : decode code 878 = .ok (.iaload, 1) := by decide +kernel
theorem d_L_law_879 : decode code 879 = .ok (.invokevirtual 125, 3) := by decide +kernel
theorem d_L_law_882 : decode code 882 = .ok (.lstore 6, 2) := by decide +kernel
theorem d_L_law_884 : decode code 884 = .ok (.aload_n 2, 1) := by decide +kernel
theorem d_L_law_885 : decode code 885 = .ok (.invokevirtual 82, 3) := by decide +kernel
theorem d_L_law_888 : decode code 888 = .ok (.iload 5, 2) := by decide +kernel
theorem d_L_law_890 : decode code 890 = .ok (.if_icmp .eq 5, 3) := by decide +kernel
theorem d_L_law_893 : decode code 893 = .ok (.iconst 0, 1) := by decide +kernel
theorem d_L_law_894 : decode code 894 = .ok (.ireturn, 1) := by decide +kernel
theorem d_L_law_895 : decode code 895 = .ok (.iload 5, 2) := by decide +kernel
theorem d_L_law_897 : decode code 897 = .ok (.ifCond .ne 14, 3) := by decide +kernel
theorem d_L_law_900 : decode code 900 = .ok (.aload_n 3, 1) := by decide +kernel
theorem d_L_law_901 : decode code 901 = .ok (.iconst 0, 1) := by decide +kernel
theorem d_L_law_902 : decode code 902 = .ok (.laload, 1) := by decide +kernel
theorem d_L_law_903 : decode code 903 = .ok (.lload 6, 2) := by decide +kernel
theorem d_L_law_905 : decode code 905 = .ok (.lcmp, 1) := by decide +kernel
theorem d_L_law_906 : decode code 906 = .ok (.ifCond .eq 5, 3) := by decide +kernel
theorem d_L_law_909 : decode code 909 = .ok (.iconst 0, 1) := by decide +kernel
theorem d_L_law_910 : decode code 910 = .ok (.ireturn, 1) := by decide +kernel
theorem d_L_law_911 : decode code 911 = .ok (.goto 298, 3) := by decide +kernel
theorem d_L_law_914 : decode code 914 = .ok (.aload_n 1, 1) := by decide +kernel
theorem d_L_law_915 : decode code 915 = .ok (.aload_n 0, 1) := by decide +kernel
theorem d_L_law_916 : decode code 916 = .ok (.iload 4, 2) := by decide +kernel
theorem d_L_law_918 : decode code 918 = .ok (.iconst 1, 1) := by decide +kernel
theorem d_L_law_919 : decode code 919 = .ok (.iadd, 1) := by decide +kernel
theorem d_L_law_920 : decode code 920 = .ok (.iaload, 1) := by decide +kernel
theorem d_L_law_921 : decode code 921 = .ok (.aload_n 3, 1) := by decide +kernel
theorem d_L_law_922 : decode code 922 = .ok (.invokestatic 126, 3) := by decide +kernel
theorem d_L_law_925 : decode code 925 = .ok (.istore 5, 2) := by decide +kernel
theorem d_L_law_927 : decode code 927 = .ok (.aload_n 2, 1) := by decide +kernel
theorem d_L_law_928 : decode code 928 = .ok (.aload_n 0, 1) := by decide +kernel
theorem d_L_law_929 : decode code 929 = .ok (.iload 4, 2) := by decide +kernel
theorem d_L_law_931 : decode code 931 = .ok (.iconst 1, 1) := by decide +kernel
theorem d_L_law_932 : decode code 932 = .ok (.iadd, 1) := by decide +kernel
theorem d_L_law_933 : decode code 933 = .ok (.iaload, 1) := by decide +kernel
theorem d_L_law_934 : decode code 934 = .ok (.invokevirtual 128, 3) := by decide +kernel
theorem d_L_law_937 : decode code 937 = .ok (.istore 6, 2) := by decide +kernel
theorem d_L_law_939 : decode code 939 = .ok (.aload_n 2, 1) := by decide +kernel
theorem d_L_law_940 : decode code 940 = .ok (.invokevirtual 82, 3) := by decide +kernel
theorem d_L_law_943 : decode code 943 = .ok (.iload 5, 2) := by decide +kernel
theorem d_L_law_945 : decode code 945 = .ok (.if_icmp .eq 5, 3) := by decide +kernel
theorem d_L_law_948 : decode code 948 = .ok (.iconst 0, 1) := by decide +kernel
theorem d_L_law_949 : decode code 949 = .ok (.ireturn, 1) := by decide +kernel
theorem d_L_law_950 : decode code 950 = .ok (.iload 5, 2) := by decide +kernel
theorem d_L_law_952 : decode code 952 = .ok (.ifCond .ne 15, 3) := by decide +kernel
theorem d_L_law_955 : decode code 955 = .ok (.aload_n 3, 1) := by decide +kernel
theorem d_L_law_956 : decode code 956 = .ok (.iconst 0, 1) := by decide +kernel
theorem d_L_law_957 : decode code 957 = .ok (.laload, 1) := by decide +kernel
theorem d_L_law_958 : decode code 958 = .ok (.iload 6, 2) := by decide +kernel
theorem d_L_law_960 : decode code 960 = .ok (.i2l, 1) := by decide +kernel
theorem d_L_law_961 : decode code 961 = .ok (.lcmp, 1) := by decide +kernel
theorem d_L_law_962 : decode code 962 = .ok (.ifCond .eq 5, 3) := by decide +kernel
theorem d_L_law_965 : decode code 965 = .ok (.iconst 0, 1) := by decide +kernel
theorem d_L_law_966 : decode code 966 = .ok (.ireturn, 1) := by decide +kernel
theorem d_L_law_967 : decode code 967 = .ok (.goto 242, 3) := by decide +kernel
theorem d_L_law_970 : decode code 970 = .ok (.aload_n 1, 1) := by decide +kernel
theorem d_L_law_971 : decode code 971 = .ok (.aload_n 0, 1) := by decide +kernel
theorem d_L_law_972 : decode code 972 = .ok (.iload 4, 2) := by decide +kernel
theorem d_L_law_974 : decode code 974 = .ok (.iconst 1, 1) := by decide +kernel
theorem d_L_law_975 : decode code 975 = .ok (.iadd, 1) := by decide +kernel
theorem d_L_law_976 : decode code 976 = .ok (.iaload, 1) := by decide +kernel
theorem d_L_law_977 : decode code 977 = .ok (.aload_n 0, 1) := by decide +kernel
theorem d_L_law_978 : decode code 978 = .ok (.iload 4, 2) := by decide +kernel
theorem d_L_law_980 : decode code 980 = .ok (.iconst 2, 1) := by decide +kernel
theorem d_L_law_981 : decode code 981 = .ok (.iadd, 1) := by decide +kernel
theorem d_L_law_982 : decode code 982 = .ok (.iaload, 1) := by decide +kernel
theorem d_L_law_983 : decode code 983 = .ok (.aload_n 3, 1) := by decide +kernel
theorem d_L_law_984 : decode code 984 = .ok (.invokestatic 129, 3) := by decide +kernel
theorem d_L_law_987 : decode code 987 = .ok (.istore 5, 2) := by decide +kernel
theorem d_L_law_989 : decode code 989 = .ok (.aload_n 2, 1) := by decide +kernel
theorem d_L_law_990 : decode code 990 = .ok (.aload_n 0, 1) := by decide +kernel
theorem d_L_law_991 : decode code 991 = .ok (.iload 4, 2) := by decide +kernel
theorem d_L_law_993 : decode code 993 = .ok (.iconst 1, 1) := by decide +kernel
theorem d_L_law_994 : decode code 994 = .ok (.iadd, 1) := by decide +kernel
theorem d_L_law_995 : decode code 995 = .ok (.iaload, 1) := by decide +kernel
theorem d_L_law_996 : decode code 996 = .ok (.aload_n 0, 1) := by decide +kernel
theorem d_L_law_997 : decode code 997 = .ok (.iload 4, 2) := by decide +kernel
theorem d_L_law_999 : decode code 999 = .ok (.iconst 2, 1) := by decide +kernel
theorem d_L_law_1000 : decode code 1000 = .ok (.iadd, 1) := by decide +kernel
theorem d_L_law_1001 : decode code 1001 = .ok (.iaload, 1) := by decide +kernel
theorem d_L_law_1002 : decode code 1002 = .ok (.invokevirtual 131, 3) := by decide +kernel
theorem d_L_law_1005 : decode code 1005 = .ok (.istore 6, 2) := by decide +kernel
theorem d_L_law_1007 : decode code 1007 = .ok (.aload_n 2, 1) := by decide +kernel
theorem d_L_law_1008 : decode code 1008 = .ok (.invokevirtual 82, 3) := by decide +kernel
theorem d_L_law_1011 : decode code 1011 = .ok (.iload 5, 2) := by decide +kernel
theorem d_L_law_1013 : decode code 1013 = .ok (.if_icmp .eq 5, 3) := by decide +kernel
theorem d_L_law_1016 : decode code 1016 = .ok (.iconst 0, 1) := by decide +kernel
theorem d_L_law_1017 : decode code 1017 = .ok (.ireturn, 1) := by decide +kernel
theorem d_L_law_1018 : decode code 1018 = .ok (.iload 5, 2) := by decide +kernel
theorem d_L_law_1020 : decode code 1020 = .ok (.ifCond .ne 15, 3) := by decide +kernel
theorem d_L_law_1023 : decode code 1023 = .ok (.aload_n 3, 1) := by decide +kernel
theorem d_L_law_1024 : decode code 1024 = .ok (.iconst 0, 1) := by decide +kernel
theorem d_L_law_1025 : decode code 1025 = .ok (.laload, 1) := by decide +kernel
theorem d_L_law_1026 : decode code 1026 = .ok (.iload 6, 2) := by decide +kernel
theorem d_L_law_1028 : decode code 1028 = .ok (.i2l, 1) := by decide +kernel
theorem d_L_law_1029 : decode code 1029 = .ok (.lcmp, 1) := by decide +kernel
theorem d_L_law_1030 : decode code 1030 = .ok (.ifCond .eq 5, 3) := by decide +kernel
theorem d_L_law_1033 : decode code 1033 = .ok (.iconst 0, 1) := by decide +kernel
theorem d_L_law_1034 : decode code 1034 = .ok (.ireturn, 1) := by decide +kernel
theorem d_L_law_1035 : decode code 1035 = .ok (.goto 174, 3) := by decide +kernel
theorem d_L_law_1038 : decode code 1038 = .ok (.aload_n 1, 1) := by decide +kernel
theorem d_L_law_1039 : decode code 1039 = .ok (.aload_n 0, 1) := by decide +kernel
theorem d_L_law_1040 : decode code 1040 = .ok (.iload 4, 2) := by decide +kernel
theorem d_L_law_1042 : decode code 1042 = .ok (.iconst 1, 1) := by decide +kernel
theorem d_L_law_1043 : decode code 1043 = .ok (.iadd, 1) := by decide +kernel
theorem d_L_law_1044 : decode code 1044 = .ok (.iaload, 1) := by decide +kernel
theorem d_L_law_1045 : decode code 1045 = .ok (.aload_n 0, 1) := by decide +kernel
theorem d_L_law_1046 : decode code 1046 = .ok (.iload 4, 2) := by decide +kernel
theorem d_L_law_1048 : decode code 1048 = .ok (.iconst 2, 1) := by decide +kernel
theorem d_L_law_1049 : decode code 1049 = .ok (.iadd, 1) := by decide +kernel
theorem d_L_law_1050 : decode code 1050 = .ok (.iaload, 1) := by decide +kernel
theorem d_L_law_1051 : decode code 1051 = .ok (.aload_n 0, 1) := by decide +kernel
theorem d_L_law_1052 : decode code 1052 = .ok (.iload 4, 2) := by decide +kernel
theorem d_L_law_1054 : decode code 1054 = .ok (.iconst 3, 1) := by decide +kernel
theorem d_L_law_1055 : decode code 1055 = .ok (.iadd, 1) := by decide +kernel
theorem d_L_law_1056 : decode code 1056 = .ok (.iaload, 1) := by decide +kernel
theorem d_L_law_1057 : decode code 1057 = .ok (.aload_n 3, 1) := by decide +kernel
theorem d_L_law_1058 : decode code 1058 = .ok (.invokestatic 132, 3) := by decide +kernel
theorem d_L_law_1061 : decode code 1061 = .ok (.istore 5, 2) := by decide +kernel
theorem d_L_law_1063 : decode code 1063 = .ok (.aload_n 2, 1) := by decide +kernel
theorem d_L_law_1064 : decode code 1064 = .ok (.aload_n 0, 1) := by decide +kernel
theorem d_L_law_1065 : decode code 1065 = .ok (.iload 4, 2) := by decide +kernel
theorem d_L_law_1067 : decode code 1067 = .ok (.iconst 1, 1) := by decide +kernel
theorem d_L_law_1068 : decode code 1068 = .ok (.iadd, 1) := by decide +kernel
theorem d_L_law_1069 : decode code 1069 = .ok (.iaload, 1) := by decide +kernel
theorem d_L_law_1070 : decode code 1070 = .ok (.aload_n 0, 1) := by decide +kernel
theorem d_L_law_1071 : decode code 1071 = .ok (.iload 4, 2) := by decide +kernel
theorem d_L_law_1073 : decode code 1073 = .ok (.iconst 2, 1) := by decide +kernel
theorem d_L_law_1074 : decode code 1074 = .ok (.iadd, 1) := by decide +kernel
theorem d_L_law_1075 : decode code 1075 = .ok (.iaload, 1) := by decide +kernel
theorem d_L_law_1076 : decode code 1076 = .ok (.aload_n 0, 1) := by decide +kernel
theorem d_L_law_1077 : decode code 1077 = .ok (.iload 4, 2) := by decide +kernel
theorem d_L_law_1079 : decode code 1079 = .ok (.iconst 3, 1) := by decide +kernel
theorem d_L_law_1080 : decode code 1080 = .ok (.iadd, 1) := by decide +kernel
theorem d_L_law_1081 : decode code 1081 = .ok (.iaload, 1) := by decide +kernel
theorem d_L_law_1082 : decode code 1082 = .ok (.invokevirtual 134, 3) := by decide +kernel
theorem d_L_law_1085 : decode code 1085 = .ok (.istore 6, 2) := by decide +kernel
theorem d_L_law_1087 : decode code 1087 = .ok (.aload_n 2, 1) := by decide +kernel
theorem d_L_law_1088 : decode code 1088 = .ok (.invokevirtual 82, 3) := by decide +kernel
theorem d_L_law_1091 : decode code 1091 = .ok (.iload 5, 2) := by decide +kernel
theorem d_L_law_1093 : decode code 1093 = .ok (.if_icmp .eq 5, 3) := by decide +kernel
theorem d_L_law_1096 : decode code 1096 = .ok (.iconst 0, 1) := by decide +kernel
theorem d_L_law_1097 : decode code 1097 = .ok (.ireturn, 1) := by decide +kernel
theorem d_L_law_1098 : decode code 1098 = .ok (.iload 5, 2) := by decide +kernel
theorem d_L_law_1100 : decode code 1100 = .ok (.ifCond .ne 15, 3) := by decide +kernel
theorem d_L_law_1103 : decode code 1103 = .ok (.aload_n 3, 1) := by decide +kernel
theorem d_L_law_1104 : decode code 1104 = .ok (.iconst 0, 1) := by decide +kernel
theorem d_L_law_1105 : decode code 1105 = .ok (.laload, 1) := by decide +kernel
theorem d_L_law_1106 : decode code 1106 = .ok (.iload 6, 2) := by decide +kernel
theorem d_L_law_1108 : decode code 1108 = .ok (.i2l, 1) := by decide +kernel
theorem d_L_law_1109 : decode code 1109 = .ok (.lcmp, 1) := by decide +kernel
theorem d_L_law_1110 : decode code 1110 = .ok (.ifCond .eq 5, 3) := by decide +kernel
theorem d_L_law_1113 : decode code 1113 = .ok (.iconst 0, 1) := by decide +kernel
theorem d_L_law_1114 : decode code 1114 = .ok (.ireturn, 1) := by decide +kernel
theorem d_L_law_1115 : decode code 1115 = .ok (.goto 94, 3) := by decide +kernel
theorem d_L_law_1118 : decode code 1118 = .ok (.aload_n 1, 1) := by decide +kernel
theorem d_L_law_1119 : decode code 1119 = .ok (.aload_n 0, 1) := by decide +kernel
theorem d_L_law_1120 : decode code 1120 = .ok (.iload 4, 2) := by decide +kernel
theorem d_L_law_1122 : decode code 1122 = .ok (.iconst 1, 1) := by decide +kernel
theorem d_L_law_1123 : decode code 1123 = .ok (.iadd, 1) := by decide +kernel
theorem d_L_law_1124 : decode code 1124 = .ok (.iaload, 1) := by decide +kernel
theorem d_L_law_1125 : decode code 1125 = .ok (.aload_n 0, 1) := by decide +kernel
theorem d_L_law_1126 : decode code 1126 = .ok (.iload 4, 2) := by decide +kernel
theorem d_L_law_1128 : decode code 1128 = .ok (.iconst 2, 1) := by decide +kernel
theorem d_L_law_1129 : decode code 1129 = .ok (.iadd, 1) := by decide +kernel
theorem d_L_law_1130 : decode code 1130 = .ok (.iaload, 1) := by decide +kernel
theorem d_L_law_1131 : decode code 1131 = .ok (.aload_n 0, 1) := by decide +kernel
theorem d_L_law_1132 : decode code 1132 = .ok (.iload 4, 2) := by decide +kernel
theorem d_L_law_1134 : decode code 1134 = .ok (.iconst 3, 1) := by decide +kernel
theorem d_L_law_1135 : decode code 1135 = .ok (.iadd, 1) := by decide +kernel
theorem d_L_law_1136 : decode code 1136 = .ok (.iaload, 1) := by decide +kernel
theorem d_L_law_1137 : decode code 1137 = .ok (.aload_n 0, 1) := by decide +kernel
theorem d_L_law_1138 : decode code 1138 = .ok (.iload 4, 2) := by decide +kernel
theorem d_L_law_1140 : decode code 1140 = .ok (.iconst 4, 1) := by decide +kernel
theorem d_L_law_1141 : decode code 1141 = .ok (.iadd, 1) := by decide +kernel
theorem d_L_law_1142 : decode code 1142 = .ok (.iaload, 1) := by decide +kernel
theorem d_L_law_1143 : decode code 1143 = .ok (.aload_n 3, 1) := by decide +kernel
theorem d_L_law_1144 : decode code 1144 = .ok (.invokestatic 135, 3) := by decide +kernel
theorem d_L_law_1147 : decode code 1147 = .ok (.istore 5, 2) := by decide +kernel
theorem d_L_law_1149 : decode code 1149 = .ok (.aload_n 2, 1) := by decide +kernel
theorem d_L_law_1150 : decode code 1150 = .ok (.aload_n 0, 1) := by decide +kernel
theorem d_L_law_1151 : decode code 1151 = .ok (.iload 4, 2) := by decide +kernel
theorem d_L_law_1153 : decode code 1153 = .ok (.iconst 1, 1) := by decide +kernel
theorem d_L_law_1154 : decode code 1154 = .ok (.iadd, 1) := by decide +kernel
theorem d_L_law_1155 : decode code 1155 = .ok (.iaload, 1) := by decide +kernel
theorem d_L_law_1156 : decode code 1156 = .ok (.aload_n 0, 1) := by decide +kernel
theorem d_L_law_1157 : decode code 1157 = .ok (.iload 4, 2) := by decide +kernel
theorem d_L_law_1159 : decode code 1159 = .ok (.iconst 2, 1) := by decide +kernel
theorem d_L_law_1160 : decode code 1160 = .ok (.iadd, 1) := by decide +kernel
theorem d_L_law_1161 : decode code 1161 = .ok (.iaload, 1) := by decide +kernel
theorem d_L_law_1162 : decode code 1162 = .ok (.aload_n 0, 1) := by decide +kernel
theorem d_L_law_1163 : decode code 1163 = .ok (.iload 4, 2) := by decide +kernel
theorem d_L_law_1165 : decode code 1165 = .ok (.iconst 3, 1) := by decide +kernel
theorem d_L_law_1166 : decode code 1166 = .ok (.iadd, 1) := by decide +kernel
theorem d_L_law_1167 : decode code 1167 = .ok (.iaload, 1) := by decide +kernel
theorem d_L_law_1168 : decode code 1168 = .ok (.aload_n 0, 1) := by decide +kernel
theorem d_L_law_1169 : decode code 1169 = .ok (.iload 4, 2) := by decide +kernel
theorem d_L_law_1171 : decode code 1171 = .ok (.iconst 4, 1) := by decide +kernel
theorem d_L_law_1172 : decode code 1172 = .ok (.iadd, 1) := by decide +kernel
theorem d_L_law_1173 : decode code 1173 = .ok (.iaload, 1) := by decide +kernel
theorem d_L_law_1174 : decode code 1174 = .ok (.invokevirtual 138, 3) := by decide +kernel
theorem d_L_law_1177 : decode code 1177 = .ok (.lstore 6, 2) := by decide +kernel
theorem d_L_law_1179 : decode code 1179 = .ok (.aload_n 2, 1) := by decide +kernel
theorem d_L_law_1180 : decode code 1180 = .ok (.invokevirtual 82, 3) := by decide +kernel
theorem d_L_law_1183 : decode code 1183 = .ok (.iload 5, 2) := by decide +kernel
theorem d_L_law_1185 : decode code 1185 = .ok (.if_icmp .eq 5, 3) := by decide +kernel
theorem d_L_law_1188 : decode code 1188 = .ok (.iconst 0, 1) := by decide +kernel
theorem d_L_law_1189 : decode code 1189 = .ok (.ireturn, 1) := by decide +kernel
theorem d_L_law_1190 : decode code 1190 = .ok (.iload 5, 2) := by decide +kernel
theorem d_L_law_1192 : decode code 1192 = .ok (.ifCond .ne 14, 3) := by decide +kernel
theorem d_L_law_1195 : decode code 1195 = .ok (.aload_n 3, 1) := by decide +kernel
theorem d_L_law_1196 : decode code 1196 = .ok (.iconst 0, 1) := by decide +kernel
theorem d_L_law_1197 : decode code 1197 = .ok (.laload, 1) := by decide +kernel
theorem d_L_law_1198 : decode code 1198 = .ok (.lload 6, 2) := by decide +kernel
theorem d_L_law_1200 : decode code 1200 = .ok (.lcmp, 1) := by decide +kernel
theorem d_L_law_1201 : decode code 1201 = .ok (.ifCond .eq 5, 3) := by decide +kernel
theorem d_L_law_1204 : decode code 1204 = .ok (.iconst 0, 1) := by decide +kernel
theorem d_L_law_1205 : decode code 1205 = .ok (.ireturn, 1) := by decide +kernel
theorem d_L_law_1206 : decode code 1206 = .ok (.goto 3, 3) := by decide +kernel
theorem d_L_law_1209 : decode code 1209 = .ok (.iinc 4 5, 3) := by decide +kernel
theorem d_L_law_1212 : decode code 1212 = .ok (.goto (-1189), 3) := by decide +kernel
theorem d_L_law_1215 : decode code 1215 = .ok (.iconst 1, 1) := by decide +kernel
theorem d_L_law_1216 : decode code 1216 = .ok (.ireturn, 1) := by decide +kernel
theorem d_L_law_39 : decode code 39 = .ok (.tableswitch 1170 0 16 #[81, 149, 229, 289, 357, 413, 469, 532, 600, 656, 712, 760, 808, 875, 931, 999, 1079], 81) := by decide +kernel
