theorem dL_law_777 : decode cL_law 777 = .ok (.aload_n 1, 1) := de_43 (lb_48 (j := 9) (b := 43) rfl)
theorem dL_law_778 : decode cL_law 778 = .ok (.aload_n 0, 1) := de_42 (lb_48 (j := 10) (b := 42) rfl)
theorem dL_law_779 : decode cL_law 779 = .ok (.iload 5, 2) := de_21 (lb_48 (j := 11) (b := 21) rfl) (lb_48 (j := 12) (b := 5) rfl) rfl
theorem dL_law_781 : decode cL_law 781 = .ok (.iconst 1, 1) := de_4 (lb_48 (j := 13) (b := 4) rfl)
theorem dL_law_782 : decode cL_law 782 = .ok (.iadd, 1) := de_96 (lb_48 (j := 14) (b := 96) rfl)
theorem dL_law_783 : decode cL_law 783 = .ok (.iaload, 1) := de_46 (lb_48 (j := 15) (b := 46) rfl)
theorem dL_law_784 : decode cL_law 784 = .ok (.aload_n 0, 1) := de_42 (lb_49 (j := 0) (b := 42) rfl)
theorem dL_law_785 : decode cL_law 785 = .ok (.iload 5, 2) := de_21 (lb_49 (j := 1) (b := 21) rfl) (lb_49 (j := 2) (b := 5) rfl) rfl
theorem dL_law_787 : decode cL_law 787 = .ok (.iconst 2, 1) := de_5 (lb_49 (j := 3) (b := 5) rfl)
theorem dL_law_788 : decode cL_law 788 = .ok (.iadd, 1) := de_96 (lb_49 (j := 4) (b := 96) rfl)
theorem dL_law_789 : decode cL_law 789 = .ok (.iaload, 1) := de_46 (lb_49 (j := 5) (b := 46) rfl)
theorem dL_law_790 : decode cL_law 790 = .ok (.aload_n 3, 1) := de_45 (lb_49 (j := 6) (b := 45) rfl)
theorem dL_law_791 : decode cL_law 791 = .ok (.invokestatic 259, 3) := de_184 (lb_49 (j := 7) (b := 184) rfl) (lb_49 (j := 8) (b := 1) rfl) (lb_49 (j := 9) (b := 3) rfl) rfl
theorem dL_law_794 : decode cL_law 794 = .ok (.istore 6, 2) := de_54 (lb_49 (j := 10) (b := 54) rfl) (lb_49 (j := 11) (b := 6) rfl) rfl
theorem dL_law_796 : decode cL_law 796 = .ok (.aload_n 2, 1) := de_44 (lb_49 (j := 12) (b := 44) rfl)
theorem dL_law_797 : decode cL_law 797 = .ok (.aload_n 0, 1) := de_42 (lb_49 (j := 13) (b := 42) rfl)
theorem dL_law_798 : decode cL_law 798 = .ok (.iload 5, 2) := de_21 (lb_49 (j := 14) (b := 21) rfl) (lb_49 (j := 15) (b := 5) rfl) rfl
theorem dL_law_800 : decode cL_law 800 = .ok (.iconst 1, 1) := de_4 (lb_50 (j := 0) (b := 4) rfl)
theorem dL_law_801 : decode cL_law 801 = .ok (.iadd, 1) := de_96 (lb_50 (j := 1) (b := 96) rfl)
theorem dL_law_802 : decode cL_law 802 = .ok (.iaload, 1) := de_46 (lb_50 (j := 2) (b := 46) rfl)
theorem dL_law_803 : decode cL_law 803 = .ok (.aload_n 0, 1) := de_42 (lb_50 (j := 3) (b := 42) rfl)
theorem dL_law_804 : decode cL_law 804 = .ok (.iload 5, 2) := de_21 (lb_50 (j := 4) (b := 21) rfl) (lb_50 (j := 5) (b := 5) rfl) rfl
theorem dL_law_806 : decode cL_law 806 = .ok (.iconst 2, 1) := de_5 (lb_50 (j := 6) (b := 5) rfl)
theorem dL_law_807 : decode cL_law 807 = .ok (.iadd, 1) := de_96 (lb_50 (j := 7) (b := 96) rfl)
theorem dL_law_808 : decode cL_law 808 = .ok (.iaload, 1) := de_46 (lb_50 (j := 8) (b := 46) rfl)
theorem dL_law_809 : decode cL_law 809 = .ok (.invokevirtual 261, 3) := de_182 (lb_50 (j := 9) (b := 182) rfl) (lb_50 (j := 10) (b := 1) rfl) (lb_50 (j := 11) (b := 5) rfl) rfl
theorem dL_law_812 : decode cL_law 812 = .ok (.istore 7, 2) := de_54 (lb_50 (j := 12) (b := 54) rfl) (lb_50 (j := 13) (b := 7) rfl) rfl
theorem dL_law_814 : decode cL_law 814 = .ok (.goto 1625, 3) := de_167 (lb_50 (j := 14) (b := 167) rfl) (lb_50 (j := 15) (b := 6) rfl) (lb_51 (j := 0) (b := 89) rfl) (by decide +kernel)
theorem dL_law_817 : decode cL_law 817 = .ok (.aload_n 1, 1) := de_43 (lb_51 (j := 1) (b := 43) rfl)
theorem dL_law_818 : decode cL_law 818 = .ok (.aload_n 0, 1) := de_42 (lb_51 (j := 2) (b := 42) rfl)
theorem dL_law_819 : decode cL_law 819 = .ok (.iload 5, 2) := de_21 (lb_51 (j := 3) (b := 21) rfl) (lb_51 (j := 4) (b := 5) rfl) rfl
theorem dL_law_821 : decode cL_law 821 = .ok (.iconst 1, 1) := de_4 (lb_51 (j := 5) (b := 4) rfl)
theorem dL_law_822 : decode cL_law 822 = .ok (.iadd, 1) := de_96 (lb_51 (j := 6) (b := 96) rfl)
theorem dL_law_823 : decode cL_law 823 = .ok (.iaload, 1) := de_46 (lb_51 (j := 7) (b := 46) rfl)
theorem dL_law_824 : decode cL_law 824 = .ok (.aload_n 0, 1) := de_42 (lb_51 (j := 8) (b := 42) rfl)
theorem dL_law_825 : decode cL_law 825 = .ok (.iload 5, 2) := de_21 (lb_51 (j := 9) (b := 21) rfl) (lb_51 (j := 10) (b := 5) rfl) rfl
theorem dL_law_827 : decode cL_law 827 = .ok (.iconst 2, 1) := de_5 (lb_51 (j := 11) (b := 5) rfl)
theorem dL_law_828 : decode cL_law 828 = .ok (.iadd, 1) := de_96 (lb_51 (j := 12) (b := 96) rfl)
theorem dL_law_829 : decode cL_law 829 = .ok (.iaload, 1) := de_46 (lb_51 (j := 13) (b := 46) rfl)
theorem dL_law_830 : decode cL_law 830 = .ok (.aload_n 0, 1) := de_42 (lb_51 (j := 14) (b := 42) rfl)
theorem dL_law_831 : decode cL_law 831 = .ok (.iload 5, 2) := de_21 (lb_51 (j := 15) (b := 21) rfl) (lb_52 (j := 0) (b := 5) rfl) rfl
theorem dL_law_833 : decode cL_law 833 = .ok (.iconst 3, 1) := de_6 (lb_52 (j := 1) (b := 6) rfl)
theorem dL_law_834 : decode cL_law 834 = .ok (.iadd, 1) := de_96 (lb_52 (j := 2) (b := 96) rfl)
theorem dL_law_835 : decode cL_law 835 = .ok (.iaload, 1) := de_46 (lb_52 (j := 3) (b := 46) rfl)
theorem dL_law_836 : decode cL_law 836 = .ok (.aload_n 3, 1) := de_45 (lb_52 (j := 4) (b := 45) rfl)
theorem dL_law_837 : decode cL_law 837 = .ok (.invokestatic 262, 3) := de_184 (lb_52 (j := 5) (b := 184) rfl) (lb_52 (j := 6) (b := 1) rfl) (lb_52 (j := 7) (b := 6) rfl) rfl
theorem dL_law_840 : decode cL_law 840 = .ok (.istore 6, 2) := de_54 (lb_52 (j := 8) (b := 54) rfl) (lb_52 (j := 9) (b := 6) rfl) rfl
theorem dL_law_842 : decode cL_law 842 = .ok (.aload_n 2, 1) := de_44 (lb_52 (j := 10) (b := 44) rfl)
theorem dL_law_843 : decode cL_law 843 = .ok (.aload_n 0, 1) := de_42 (lb_52 (j := 11) (b := 42) rfl)
theorem dL_law_844 : decode cL_law 844 = .ok (.iload 5, 2) := de_21 (lb_52 (j := 12) (b := 21) rfl) (lb_52 (j := 13) (b := 5) rfl) rfl
theorem dL_law_846 : decode cL_law 846 = .ok (.iconst 1, 1) := de_4 (lb_52 (j := 14) (b := 4) rfl)
theorem dL_law_847 : decode cL_law 847 = .ok (.iadd, 1) := de_96 (lb_52 (j := 15) (b := 96) rfl)
theorem dL_law_848 : decode cL_law 848 = .ok (.iaload, 1) := de_46 (lb_53 (j := 0) (b := 46) rfl)
theorem dL_law_849 : decode cL_law 849 = .ok (.aload_n 0, 1) := de_42 (lb_53 (j := 1) (b := 42) rfl)
theorem dL_law_850 : decode cL_law 850 = .ok (.iload 5, 2) := de_21 (lb_53 (j := 2) (b := 21) rfl) (lb_53 (j := 3) (b := 5) rfl) rfl
theorem dL_law_852 : decode cL_law 852 = .ok (.iconst 2, 1) := de_5 (lb_53 (j := 4) (b := 5) rfl)
theorem dL_law_853 : decode cL_law 853 = .ok (.iadd, 1) := de_96 (lb_53 (j := 5) (b := 96) rfl)
theorem dL_law_854 : decode cL_law 854 = .ok (.iaload, 1) := de_46 (lb_53 (j := 6) (b := 46) rfl)
theorem dL_law_855 : decode cL_law 855 = .ok (.aload_n 0, 1) := de_42 (lb_53 (j := 7) (b := 42) rfl)
theorem dL_law_856 : decode cL_law 856 = .ok (.iload 5, 2) := de_21 (lb_53 (j := 8) (b := 21) rfl) (lb_53 (j := 9) (b := 5) rfl) rfl
theorem dL_law_858 : decode cL_law 858 = .ok (.iconst 3, 1) := de_6 (lb_53 (j := 10) (b := 6) rfl)
theorem dL_law_859 : decode cL_law 859 = .ok (.iadd, 1) := de_96 (lb_53 (j := 11) (b := 96) rfl)
theorem dL_law_860 : decode cL_law 860 = .ok (.iaload, 1) := de_46 (lb_53 (j := 12) (b := 46) rfl)
theorem dL_law_861 : decode cL_law 861 = .ok (.invokevirtual 264, 3) := de_182 (lb_53 (j := 13) (b := 182) rfl) (lb_53 (j := 14) (b := 1) rfl) (lb_53 (j := 15) (b := 8) rfl) rfl
theorem dL_law_864 : decode cL_law 864 = .ok (.istore 7, 2) := de_54 (lb_54 (j := 0) (b := 54) rfl) (lb_54 (j := 1) (b := 7) rfl) rfl
theorem dL_law_866 : decode cL_law 866 = .ok (.goto 1573, 3) := de_167 (lb_54 (j := 2) (b := 167) rfl) (lb_54 (j := 3) (b := 6) rfl) (lb_54 (j := 4) (b := 37) rfl) (by decide +kernel)
theorem dL_law_869 : decode cL_law 869 = .ok (.aload_n 1, 1) := de_43 (lb_54 (j := 5) (b := 43) rfl)
theorem dL_law_870 : decode cL_law 870 = .ok (.aload_n 0, 1) := de_42 (lb_54 (j := 6) (b := 42) rfl)
theorem dL_law_871 : decode cL_law 871 = .ok (.iload 5, 2) := de_21 (lb_54 (j := 7) (b := 21) rfl) (lb_54 (j := 8) (b := 5) rfl) rfl
theorem dL_law_873 : decode cL_law 873 = .ok (.iconst 1, 1) := de_4 (lb_54 (j := 9) (b := 4) rfl)
theorem dL_law_874 : decode cL_law 874 = .ok (.iadd, 1) := de_96 (lb_54 (j := 10) (b := 96) rfl)
theorem dL_law_875 : decode cL_law 875 = .ok (.iaload, 1) := de_46 (lb_54 (j := 11) (b := 46) rfl)
theorem dL_law_876 : decode cL_law 876 = .ok (.aload_n 3, 1) := de_45 (lb_54 (j := 12) (b := 45) rfl)
theorem dL_law_877 : decode cL_law 877 = .ok (.invokestatic 265, 3) := de_184 (lb_54 (j := 13) (b := 184) rfl) (lb_54 (j := 14) (b := 1) rfl) (lb_54 (j := 15) (b := 9) rfl) rfl
theorem dL_law_880 : decode cL_law 880 = .ok (.istore 6, 2) := de_54 (lb_55 (j := 0) (b := 54) rfl) (lb_55 (j := 1) (b := 6) rfl) rfl
theorem dL_law_882 : decode cL_law 882 = .ok (.aload_n 2, 1) := de_44 (lb_55 (j := 2) (b := 44) rfl)
theorem dL_law_883 : decode cL_law 883 = .ok (.aload_n 0, 1) := de_42 (lb_55 (j := 3) (b := 42) rfl)
theorem dL_law_884 : decode cL_law 884 = .ok (.iload 5, 2) := de_21 (lb_55 (j := 4) (b := 21) rfl) (lb_55 (j := 5) (b := 5) rfl) rfl
theorem dL_law_886 : decode cL_law 886 = .ok (.iconst 1, 1) := de_4 (lb_55 (j := 6) (b := 4) rfl)
theorem dL_law_887 : decode cL_law 887 = .ok (.iadd, 1) := de_96 (lb_55 (j := 7) (b := 96) rfl)
theorem dL_law_888 : decode cL_law 888 = .ok (.iaload, 1) := de_46 (lb_55 (j := 8) (b := 46) rfl)
theorem dL_law_889 : decode cL_law 889 = .ok (.invokevirtual 267, 3) := de_182 (lb_55 (j := 9) (b := 182) rfl) (lb_55 (j := 10) (b := 1) rfl) (lb_55 (j := 11) (b := 11) rfl) rfl
theorem dL_law_892 : decode cL_law 892 = .ok (.istore 7, 2) := de_54 (lb_55 (j := 12) (b := 54) rfl) (lb_55 (j := 13) (b := 7) rfl) rfl
theorem dL_law_894 : decode cL_law 894 = .ok (.goto 1545, 3) := de_167 (lb_55 (j := 14) (b := 167) rfl) (lb_55 (j := 15) (b := 6) rfl) (lb_56 (j := 0) (b := 9) rfl) (by decide +kernel)
theorem dL_law_897 : decode cL_law 897 = .ok (.aload_n 1, 1) := de_43 (lb_56 (j := 1) (b := 43) rfl)
theorem dL_law_898 : decode cL_law 898 = .ok (.aload_n 0, 1) := de_42 (lb_56 (j := 2) (b := 42) rfl)
theorem dL_law_899 : decode cL_law 899 = .ok (.iload 5, 2) := de_21 (lb_56 (j := 3) (b := 21) rfl) (lb_56 (j := 4) (b := 5) rfl) rfl
theorem dL_law_901 : decode cL_law 901 = .ok (.iconst 1, 1) := de_4 (lb_56 (j := 5) (b := 4) rfl)
theorem dL_law_902 : decode cL_law 902 = .ok (.iadd, 1) := de_96 (lb_56 (j := 6) (b := 96) rfl)
theorem dL_law_903 : decode cL_law 903 = .ok (.iaload, 1) := de_46 (lb_56 (j := 7) (b := 46) rfl)
theorem dL_law_904 : decode cL_law 904 = .ok (.aload_n 3, 1) := de_45 (lb_56 (j := 8) (b := 45) rfl)
theorem dL_law_905 : decode cL_law 905 = .ok (.invokestatic 268, 3) := de_184 (lb_56 (j := 9) (b := 184) rfl) (lb_56 (j := 10) (b := 1) rfl) (lb_56 (j := 11) (b := 12) rfl) rfl
theorem dL_law_908 : decode cL_law 908 = .ok (.istore 6, 2) := de_54 (lb_56 (j := 12) (b := 54) rfl) (lb_56 (j := 13) (b := 6) rfl) rfl
theorem dL_law_910 : decode cL_law 910 = .ok (.aload_n 2, 1) := de_44 (lb_56 (j := 14) (b := 44) rfl)
theorem dL_law_911 : decode cL_law 911 = .ok (.aload_n 0, 1) := de_42 (lb_56 (j := 15) (b := 42) rfl)
theorem dL_law_912 : decode cL_law 912 = .ok (.iload 5, 2) := de_21 (lb_57 (j := 0) (b := 21) rfl) (lb_57 (j := 1) (b := 5) rfl) rfl
theorem dL_law_914 : decode cL_law 914 = .ok (.iconst 1, 1) := de_4 (lb_57 (j := 2) (b := 4) rfl)
theorem dL_law_915 : decode cL_law 915 = .ok (.iadd, 1) := de_96 (lb_57 (j := 3) (b := 96) rfl)
theorem dL_law_916 : decode cL_law 916 = .ok (.iaload, 1) := de_46 (lb_57 (j := 4) (b := 46) rfl)
theorem dL_law_917 : decode cL_law 917 = .ok (.invokevirtual 270, 3) := de_182 (lb_57 (j := 5) (b := 182) rfl) (lb_57 (j := 6) (b := 1) rfl) (lb_57 (j := 7) (b := 14) rfl) rfl
theorem dL_law_920 : decode cL_law 920 = .ok (.istore 7, 2) := de_54 (lb_57 (j := 8) (b := 54) rfl) (lb_57 (j := 9) (b := 7) rfl) rfl
theorem dL_law_922 : decode cL_law 922 = .ok (.goto 1517, 3) := de_167 (lb_57 (j := 10) (b := 167) rfl) (lb_57 (j := 11) (b := 5) rfl) (lb_57 (j := 12) (b := 237) rfl) (by decide +kernel)
theorem dL_law_925 : decode cL_law 925 = .ok (.aload_n 1, 1) := de_43 (lb_57 (j := 13) (b := 43) rfl)
theorem dL_law_926 : decode cL_law 926 = .ok (.aload_n 0, 1) := de_42 (lb_57 (j := 14) (b := 42) rfl)
theorem dL_law_927 : decode cL_law 927 = .ok (.iload 5, 2) := de_21 (lb_57 (j := 15) (b := 21) rfl) (lb_58 (j := 0) (b := 5) rfl) rfl
theorem dL_law_929 : decode cL_law 929 = .ok (.iconst 1, 1) := de_4 (lb_58 (j := 1) (b := 4) rfl)
theorem dL_law_930 : decode cL_law 930 = .ok (.iadd, 1) := de_96 (lb_58 (j := 2) (b := 96) rfl)
theorem dL_law_931 : decode cL_law 931 = .ok (.iaload, 1) := de_46 (lb_58 (j := 3) (b := 46) rfl)
theorem dL_law_932 : decode cL_law 932 = .ok (.aload_n 0, 1) := de_42 (lb_58 (j := 4) (b := 42) rfl)
theorem dL_law_933 : decode cL_law 933 = .ok (.iload 5, 2) := de_21 (lb_58 (j := 5) (b := 21) rfl) (lb_58 (j := 6) (b := 5) rfl) rfl
theorem dL_law_935 : decode cL_law 935 = .ok (.iconst 2, 1) := de_5 (lb_58 (j := 7) (b := 5) rfl)
theorem dL_law_936 : decode cL_law 936 = .ok (.iadd, 1) := de_96 (lb_58 (j := 8) (b := 96) rfl)
theorem dL_law_937 : decode cL_law 937 = .ok (.iaload, 1) := de_46 (lb_58 (j := 9) (b := 46) rfl)
theorem dL_law_938 : decode cL_law 938 = .ok (.aload_n 3, 1) := de_45 (lb_58 (j := 10) (b := 45) rfl)
theorem dL_law_939 : decode cL_law 939 = .ok (.invokestatic 271, 3) := de_184 (lb_58 (j := 11) (b := 184) rfl) (lb_58 (j := 12) (b := 1) rfl) (lb_58 (j := 13) (b := 15) rfl) rfl
theorem dL_law_942 : decode cL_law 942 = .ok (.istore 6, 2) := de_54 (lb_58 (j := 14) (b := 54) rfl) (lb_58 (j := 15) (b := 6) rfl) rfl
theorem dL_law_944 : decode cL_law 944 = .ok (.aload_n 2, 1) := de_44 (lb_59 (j := 0) (b := 44) rfl)
theorem dL_law_945 : decode cL_law 945 = .ok (.aload_n 0, 1) := de_42 (lb_59 (j := 1) (b := 42) rfl)
theorem dL_law_946 : decode cL_law 946 = .ok (.iload 5, 2) := de_21 (lb_59 (j := 2) (b := 21) rfl) (lb_59 (j := 3) (b := 5) rfl) rfl
theorem dL_law_948 : decode cL_law 948 = .ok (.iconst 1, 1) := de_4 (lb_59 (j := 4) (b := 4) rfl)
theorem dL_law_949 : decode cL_law 949 = .ok (.iadd, 1) := de_96 (lb_59 (j := 5) (b := 96) rfl)
theorem dL_law_950 : decode cL_law 950 = .ok (.iaload, 1) := de_46 (lb_59 (j := 6) (b := 46) rfl)
theorem dL_law_951 : decode cL_law 951 = .ok (.aload_n 0, 1) := de_42 (lb_59 (j := 7) (b := 42) rfl)
theorem dL_law_952 : decode cL_law 952 = .ok (.iload 5, 2) := de_21 (lb_59 (j := 8) (b := 21) rfl) (lb_59 (j := 9) (b := 5) rfl) rfl
theorem dL_law_954 : decode cL_law 954 = .ok (.iconst 2, 1) := de_5 (lb_59 (j := 10) (b := 5) rfl)
theorem dL_law_955 : decode cL_law 955 = .ok (.iadd, 1) := de_96 (lb_59 (j := 11) (b := 96) rfl)
theorem dL_law_956 : decode cL_law 956 = .ok (.iaload, 1) := de_46 (lb_59 (j := 12) (b := 46) rfl)
theorem dL_law_957 : decode cL_law 957 = .ok (.invokevirtual 273, 3) := de_182 (lb_59 (j := 13) (b := 182) rfl) (lb_59 (j := 14) (b := 1) rfl) (lb_59 (j := 15) (b := 17) rfl) rfl
theorem dL_law_960 : decode cL_law 960 = .ok (.istore 7, 2) := de_54 (lb_60 (j := 0) (b := 54) rfl) (lb_60 (j := 1) (b := 7) rfl) rfl
theorem dL_law_962 : decode cL_law 962 = .ok (.goto 1477, 3) := de_167 (lb_60 (j := 2) (b := 167) rfl) (lb_60 (j := 3) (b := 5) rfl) (lb_60 (j := 4) (b := 197) rfl) (by decide +kernel)
theorem dL_law_965 : decode cL_law 965 = .ok (.aload_n 1, 1) := de_43 (lb_60 (j := 5) (b := 43) rfl)
theorem dL_law_966 : decode cL_law 966 = .ok (.aload_n 0, 1) := de_42 (lb_60 (j := 6) (b := 42) rfl)
theorem dL_law_967 : decode cL_law 967 = .ok (.iload 5, 2) := de_21 (lb_60 (j := 7) (b := 21) rfl) (lb_60 (j := 8) (b := 5) rfl) rfl
theorem dL_law_969 : decode cL_law 969 = .ok (.iconst 1, 1) := de_4 (lb_60 (j := 9) (b := 4) rfl)
theorem dL_law_970 : decode cL_law 970 = .ok (.iadd, 1) := de_96 (lb_60 (j := 10) (b := 96) rfl)
theorem dL_law_971 : decode cL_law 971 = .ok (.iaload, 1) := de_46 (lb_60 (j := 11) (b := 46) rfl)
theorem dL_law_972 : decode cL_law 972 = .ok (.aload_n 0, 1) := de_42 (lb_60 (j := 12) (b := 42) rfl)
theorem dL_law_973 : decode cL_law 973 = .ok (.iload 5, 2) := de_21 (lb_60 (j := 13) (b := 21) rfl) (lb_60 (j := 14) (b := 5) rfl) rfl
theorem dL_law_975 : decode cL_law 975 = .ok (.iconst 2, 1) := de_5 (lb_60 (j := 15) (b := 5) rfl)
theorem dL_law_976 : decode cL_law 976 = .ok (.iadd, 1) := de_96 (lb_61 (j := 0) (b := 96) rfl)
theorem dL_law_977 : decode cL_law 977 = .ok (.iaload, 1) := de_46 (lb_61 (j := 1) (b := 46) rfl)
theorem dL_law_978 : decode cL_law 978 = .ok (.aload_n 3, 1) := de_45 (lb_61 (j := 2) (b := 45) rfl)
theorem dL_law_979 : decode cL_law 979 = .ok (.invokestatic 274, 3) := de_184 (lb_61 (j := 3) (b := 184) rfl) (lb_61 (j := 4) (b := 1) rfl) (lb_61 (j := 5) (b := 18) rfl) rfl
theorem dL_law_982 : decode cL_law 982 = .ok (.istore 6, 2) := de_54 (lb_61 (j := 6) (b := 54) rfl) (lb_61 (j := 7) (b := 6) rfl) rfl
theorem dL_law_984 : decode cL_law 984 = .ok (.aload_n 2, 1) := de_44 (lb_61 (j := 8) (b := 44) rfl)
theorem dL_law_985 : decode cL_law 985 = .ok (.aload_n 0, 1) := de_42 (lb_61 (j := 9) (b := 42) rfl)
theorem dL_law_986 : decode cL_law 986 = .ok (.iload 5, 2) := de_21 (lb_61 (j := 10) (b := 21) rfl) (lb_61 (j := 11) (b := 5) rfl) rfl
theorem dL_law_988 : decode cL_law 988 = .ok (.iconst 1, 1) := de_4 (lb_61 (j := 12) (b := 4) rfl)
theorem dL_law_989 : decode cL_law 989 = .ok (.iadd, 1) := de_96 (lb_61 (j := 13) (b := 96) rfl)
theorem dL_law_990 : decode cL_law 990 = .ok (.iaload, 1) := de_46 (lb_61 (j := 14) (b := 46) rfl)
theorem dL_law_991 : decode cL_law 991 = .ok (.aload_n 0, 1) := de_42 (lb_61 (j := 15) (b := 42) rfl)
theorem dL_law_992 : decode cL_law 992 = .ok (.iload 5, 2) := de_21 (lb_62 (j := 0) (b := 21) rfl) (lb_62 (j := 1) (b := 5) rfl) rfl
theorem dL_law_994 : decode cL_law 994 = .ok (.iconst 2, 1) := de_5 (lb_62 (j := 2) (b := 5) rfl)
theorem dL_law_995 : decode cL_law 995 = .ok (.iadd, 1) := de_96 (lb_62 (j := 3) (b := 96) rfl)
theorem dL_law_996 : decode cL_law 996 = .ok (.iaload, 1) := de_46 (lb_62 (j := 4) (b := 46) rfl)
theorem dL_law_997 : decode cL_law 997 = .ok (.invokevirtual 276, 3) := de_182 (lb_62 (j := 5) (b := 182) rfl) (lb_62 (j := 6) (b := 1) rfl) (lb_62 (j := 7) (b := 20) rfl) rfl
theorem dL_law_1000 : decode cL_law 1000 = .ok (.istore 7, 2) := de_54 (lb_62 (j := 8) (b := 54) rfl) (lb_62 (j := 9) (b := 7) rfl) rfl
theorem dL_law_1002 : decode cL_law 1002 = .ok (.goto 1437, 3) := de_167 (lb_62 (j := 10) (b := 167) rfl) (lb_62 (j := 11) (b := 5) rfl) (lb_62 (j := 12) (b := 157) rfl) (by decide +kernel)
theorem dL_law_1005 : decode cL_law 1005 = .ok (.aload_n 1, 1) := de_43 (lb_62 (j := 13) (b := 43) rfl)
theorem dL_law_1006 : decode cL_law 1006 = .ok (.aload_n 0, 1) := de_42 (lb_62 (j := 14) (b := 42) rfl)
theorem dL_law_1007 : decode cL_law 1007 = .ok (.iload 5, 2) := de_21 (lb_62 (j := 15) (b := 21) rfl) (lb_63 (j := 0) (b := 5) rfl) rfl
theorem dL_law_1009 : decode cL_law 1009 = .ok (.iconst 1, 1) := de_4 (lb_63 (j := 1) (b := 4) rfl)
theorem dL_law_1010 : decode cL_law 1010 = .ok (.iadd, 1) := de_96 (lb_63 (j := 2) (b := 96) rfl)
theorem dL_law_1011 : decode cL_law 1011 = .ok (.iaload, 1) := de_46 (lb_63 (j := 3) (b := 46) rfl)
theorem dL_law_1012 : decode cL_law 1012 = .ok (.aload_n 3, 1) := de_45 (lb_63 (j := 4) (b := 45) rfl)
theorem dL_law_1013 : decode cL_law 1013 = .ok (.invokestatic 277, 3) := de_184 (lb_63 (j := 5) (b := 184) rfl) (lb_63 (j := 6) (b := 1) rfl) (lb_63 (j := 7) (b := 21) rfl) rfl
theorem dL_law_1016 : decode cL_law 1016 = .ok (.istore 6, 2) := de_54 (lb_63 (j := 8) (b := 54) rfl) (lb_63 (j := 9) (b := 6) rfl) rfl
theorem dL_law_1018 : decode cL_law 1018 = .ok (.aload_n 2, 1) := de_44 (lb_63 (j := 10) (b := 44) rfl)
theorem dL_law_1019 : decode cL_law 1019 = .ok (.aload_n 0, 1) := de_42 (lb_63 (j := 11) (b := 42) rfl)
theorem dL_law_1020 : decode cL_law 1020 = .ok (.iload 5, 2) := de_21 (lb_63 (j := 12) (b := 21) rfl) (lb_63 (j := 13) (b := 5) rfl) rfl
theorem dL_law_1022 : decode cL_law 1022 = .ok (.iconst 1, 1) := de_4 (lb_63 (j := 14) (b := 4) rfl)
theorem dL_law_1023 : decode cL_law 1023 = .ok (.iadd, 1) := de_96 (lb_63 (j := 15) (b := 96) rfl)
theorem dL_law_1024 : decode cL_law 1024 = .ok (.iaload, 1) := de_46 (lb_64 (j := 0) (b := 46) rfl)
theorem dL_law_1025 : decode cL_law 1025 = .ok (.invokevirtual 279, 3) := de_182 (lb_64 (j := 1) (b := 182) rfl) (lb_64 (j := 2) (b := 1) rfl) (lb_64 (j := 3) (b := 23) rfl) rfl
theorem dL_law_1028 : decode cL_law 1028 = .ok (.lstore 7, 2) := de_55 (lb_64 (j := 4) (b := 55) rfl) (lb_64 (j := 5) (b := 7) rfl) rfl
theorem dL_law_1030 : decode cL_law 1030 = .ok (.goto 1409, 3) := de_167 (lb_64 (j := 6) (b := 167) rfl) (lb_64 (j := 7) (b := 5) rfl) (lb_64 (j := 8) (b := 129) rfl) (by decide +kernel)
theorem dL_law_1033 : decode cL_law 1033 = .ok (.aload_n 1, 1) := de_43 (lb_64 (j := 9) (b := 43) rfl)
theorem dL_law_1034 : decode cL_law 1034 = .ok (.aload_n 0, 1) := de_42 (lb_64 (j := 10) (b := 42) rfl)
theorem dL_law_1035 : decode cL_law 1035 = .ok (.iload 5, 2) := de_21 (lb_64 (j := 11) (b := 21) rfl) (lb_64 (j := 12) (b := 5) rfl) rfl
theorem dL_law_1037 : decode cL_law 1037 = .ok (.iconst 1, 1) := de_4 (lb_64 (j := 13) (b := 4) rfl)
theorem dL_law_1038 : decode cL_law 1038 = .ok (.iadd, 1) := de_96 (lb_64 (j := 14) (b := 96) rfl)
theorem dL_law_1039 : decode cL_law 1039 = .ok (.iaload, 1) := de_46 (lb_64 (j := 15) (b := 46) rfl)
theorem dL_law_1040 : decode cL_law 1040 = .ok (.aload_n 0, 1) := de_42 (lb_65 (j := 0) (b := 42) rfl)
theorem dL_law_1041 : decode cL_law 1041 = .ok (.iload 5, 2) := de_21 (lb_65 (j := 1) (b := 21) rfl) (lb_65 (j := 2) (b := 5) rfl) rfl
theorem dL_law_1043 : decode cL_law 1043 = .ok (.iconst 2, 1) := de_5 (lb_65 (j := 3) (b := 5) rfl)
theorem dL_law_1044 : decode cL_law 1044 = .ok (.iadd, 1) := de_96 (lb_65 (j := 4) (b := 96) rfl)
theorem dL_law_1045 : decode cL_law 1045 = .ok (.iaload, 1) := de_46 (lb_65 (j := 5) (b := 46) rfl)
theorem dL_law_1046 : decode cL_law 1046 = .ok (.aload_n 3, 1) := de_45 (lb_65 (j := 6) (b := 45) rfl)
theorem dL_law_1047 : decode cL_law 1047 = .ok (.invokestatic 280, 3) := de_184 (lb_65 (j := 7) (b := 184) rfl) (lb_65 (j := 8) (b := 1) rfl) (lb_65 (j := 9) (b := 24) rfl) rfl
theorem dL_law_1050 : decode cL_law 1050 = .ok (.istore 6, 2) := de_54 (lb_65 (j := 10) (b := 54) rfl) (lb_65 (j := 11) (b := 6) rfl) rfl
theorem dL_law_1052 : decode cL_law 1052 = .ok (.aload_n 2, 1) := de_44 (lb_65 (j := 12) (b := 44) rfl)
theorem dL_law_1053 : decode cL_law 1053 = .ok (.aload_n 0, 1) := de_42 (lb_65 (j := 13) (b := 42) rfl)
theorem dL_law_1054 : decode cL_law 1054 = .ok (.iload 5, 2) := de_21 (lb_65 (j := 14) (b := 21) rfl) (lb_65 (j := 15) (b := 5) rfl) rfl
theorem dL_law_1056 : decode cL_law 1056 = .ok (.iconst 1, 1) := de_4 (lb_66 (j := 0) (b := 4) rfl)
theorem dL_law_1057 : decode cL_law 1057 = .ok (.iadd, 1) := de_96 (lb_66 (j := 1) (b := 96) rfl)
theorem dL_law_1058 : decode cL_law 1058 = .ok (.iaload, 1) := de_46 (lb_66 (j := 2) (b := 46) rfl)
theorem dL_law_1059 : decode cL_law 1059 = .ok (.aload_n 0, 1) := de_42 (lb_66 (j := 3) (b := 42) rfl)
theorem dL_law_1060 : decode cL_law 1060 = .ok (.iload 5, 2) := de_21 (lb_66 (j := 4) (b := 21) rfl) (lb_66 (j := 5) (b := 5) rfl) rfl
theorem dL_law_1062 : decode cL_law 1062 = .ok (.iconst 2, 1) := de_5 (lb_66 (j := 6) (b := 5) rfl)
theorem dL_law_1063 : decode cL_law 1063 = .ok (.iadd, 1) := de_96 (lb_66 (j := 7) (b := 96) rfl)
theorem dL_law_1064 : decode cL_law 1064 = .ok (.iaload, 1) := de_46 (lb_66 (j := 8) (b := 46) rfl)
theorem dL_law_1065 : decode cL_law 1065 = .ok (.invokevirtual 282, 3) := de_182 (lb_66 (j := 9) (b := 182) rfl) (lb_66 (j := 10) (b := 1) rfl) (lb_66 (j := 11) (b := 26) rfl) rfl
theorem dL_law_1068 : decode cL_law 1068 = .ok (.lstore 7, 2) := de_55 (lb_66 (j := 12) (b := 55) rfl) (lb_66 (j := 13) (b := 7) rfl) rfl
theorem dL_law_1070 : decode cL_law 1070 = .ok (.goto 1369, 3) := de_167 (lb_66 (j := 14) (b := 167) rfl) (lb_66 (j := 15) (b := 5) rfl) (lb_67 (j := 0) (b := 89) rfl) (by decide +kernel)
set_option maxHeartbeats 4000000 in
set_option maxRecDepth 100000 in
theorem y_a16 {p : Program} {e : Env} {s : State} {m : MethodId} {below : List Frame} {meth : Method} {c : Code} (l : Launch) (hst : l.stackTraces = false) {b L : Nat} {xs : Nat → Int32} (hx : p.tables.exec = Jvm.exec) (hb : c.code = code) (hml : c.maxLocals = 9) (hown : s.vm.findClass RL = some m.cls) (hts : ∀ w ∈ lw_tbl, w.before #[Value.ref b] s = true) (hX0 : va_X b L xs s s.heap) (hbl : b < s.heap.size) (hX : xT (fun q => s.heap.size ≤ q) s) (hN : nC s) (hTS : sAll s.heap.size s) {D : va_G} {cI cJ cZ cMic cSrc cSt cAI cAJ cD : ClassId} (hK : va_K D vwCl (CT cI cJ cZ cMic cSrc cSt cAI cAJ ++ [(cD, .double)]) s) {Q : State → Prop} {i j : Nat} (hi : i + 6 ≤ L) (hL : L ≤ 3072) (hj : j < 512) {aj ae : Nat} {ad am : Nat → Nat} {T : AT} {Sm : MS} {f : Nat → Int64} {g : Nat → UInt64} {ls : Array Slot} {H : Heap} {locs : List Loc} (hV : IV aR0 1586 aK1 aK2 T) (hrc : RC T) (hJ : JJ Sm) (G : gL cI cJ cZ cMic cSrc cSt cAI cAJ D ad (fun q => s.heap.size ≤ q) s.heap H locs T (oJ aj cJ f :: oD ae cD g :: MW cI cJ cZ am Sm)) (hl : lv_has ls 9 [(5, .int (nI i)), (4, .ref ae), (3, .ref aj), (2, .ref (am 0)), (1, .ref (ad 0)), (0, .ref b)]) (kk : ∀ {k1 : Nat} {r1 : Int32} {T1 : AT} {r2 : Int32} {S1 : MS} (ad2 : Nat → Nat) (f1 : Nat → Int64) (g1 : Nat → UInt64) (H1 : Heap) (locs1 : List Loc) (ls1 : Array Slot), g_X11_delay T 0 (xs (i + 1)) (xs (i + 2)) = some (k1, r1, T1) → fr_delay Sm (xs (i + 1)) (xs (i + 2)) = some (r2, S1) → ad2 0 = ad 0 → IV aR0 1586 aK1 aK2 T1 → RC T1 → JJ S1 → gL cI cJ cZ cMic cSrc cSt cAI cAJ D ad2 (fun q => s.heap.size ≤ q) s.heap H1 locs1 T1 (oJ aj cJ f1 :: oD ae cD g1 :: MW cI cJ cZ am S1) → lv_has ls1 9 [(5, .int (nI i)), (4, .ref ae), (3, .ref aj), (2, .ref (am 0)), (1, .ref (ad2 0)), (0, .ref b)] → W p l e room_1 s m #[Value.ref b] below meth c H1 locs1 (19 + T1.1 + (j + 1)) (38467 + sg T1 + 6 * (j + 1)) Q (F0 m 2439 ls1 [])) : W p l e room_1 s m #[Value.ref b] below meth c H locs (19 + T.1 + j) (38467 + sg T + 6 * j) Q (F0 m 777 ls []) := by
  have E : cE p c cL_law s m #[Value.ref b] lw_tbl D RL (CT cI cJ cZ cMic cSrc cSt cAI cAJ ++ [(cD, .double)]) := ⟨hx, hb, hts, hown, hK⟩
  have hA : ∀ q : Nat, s.heap.size ≤ q → s.heap.size ≤ q := fun _ h => h
  have h0T : 0 < T.1 := Nat.lt_of_lt_of_le (by decide) hV.1.2.2
  have h0s : T.2.1 0 = (11, 0) := hV.2.1 0 ⟨by decide, by decide +kernel, by decide +kernel⟩
  refine lv_aload_n hx hb dL_law_777 rfl (lv_at hl 4 rfl) ?_
  refine lv_aload_n hx hb dL_law_778 rfl (lv_at hl 5 rfl) ?_
  refine lv_iload hx hb dL_law_779 (lv_at hl 0 rfl) ?_
  refine lv_iconst (v := 1) hx hb dL_law_781 (by decide) ?_
  refine lv_iadd hx hb dL_law_782 ?_
  refine lv_to (y := nI (i + 1)) (nI_add i 1) ?_
  refine va_sld hx hb hX0 hbl (Nat.not_le.mpr hbl) G.2.2 (i := nI (i + 1)) (vp_in_nI (n := i + 1) (N := L) (by omega) (by omega)) dL_law_783 ?_
  refine lv_to (y := xs (i + 1)) (congrArg xs (nI_clamp (by omega))) ?_
  refine lv_aload_n hx hb dL_law_784 rfl (lv_at hl 5 rfl) ?_
  refine lv_iload hx hb dL_law_785 (lv_at hl 0 rfl) ?_
  refine lv_iconst (v := 2) hx hb dL_law_787 (by decide) ?_
  refine lv_iadd hx hb dL_law_788 ?_
  refine lv_to (y := nI (i + 2)) (nI_add i 2) ?_
  refine va_sld hx hb hX0 hbl (Nat.not_le.mpr hbl) G.2.2 (i := nI (i + 2)) (vp_in_nI (n := i + 2) (N := L) (by omega) (by omega)) dL_law_789 ?_
  refine lv_to (y := xs (i + 2)) (congrArg xs (nI_clamp (by omega))) ?_
  refine lv_aload_n hx hb dL_law_790 rfl (lv_at hl 2 rfl) ?_
  obtain ⟨⟨k1, r1, T1⟩, hg, hc⟩ := cs_X11_delay T 0 (xs (i + 1)) (xs (i + 2)) hV (by decide +kernel)
  have hV1 : IV aR0 1586 aK1 aK2 T1 := by rw [show T1 = T from hc.1]; exact hV
  have hg1 := (gl_sp (s_X11_delay hg))
  have hg2 := sg_le hg1
  have hg3 := hg1.1
  have hk := hV1.2.2.2.2.2.2
  have hrc1 := hg1.2.2 hrc
  have hr0 := a_room
  refine l_v (h0 := s.heap.size) (As := [.ref (ad 0), .int (xs (i + 1)), .int (xs (i + 2)), .ref aj]) (rest := []) E G hA hX hN (fun _ h => h) hTS hml (v_delay l hst D s.heap.size ad T 0 (xs (i + 1)) (xs (i + 2)) aj f hg hrc h0T h0s) (vx_cwSW 4 hts (glA (L := [Cond.methodLink RL 259 yL_delay, Cond.static yL_delay, Cond.initialized RL]) (gl_in [(5, 106), (5, 107), (1, 0)] (by decide +kernel) (by decide +kernel)) ⟨(t_of [Cond.codeWith yL_delay cL_delay 5 (some .int) [(0, 10, 13, 21), (0, 10, 17, 13)]] [(5, 108)] (by decide +kernel) _ List.mem_cons_self), List.all_eq_true.mp (by decide +kernel : [Cond.codeWith yL_delay cL_delay 5 (some .int) [(0, 10, 13, 21), (0, 10, 17, 13)]].all goodWord = true) _ List.mem_cons_self⟩) rfl rfl rfl (by decide +kernel) ⟨Nat.le_of_ble_eq_true rfl, Nat.le_of_ble_eq_true rfl⟩) rfl hl.1 rfl (lv_room (Nat.le_of_ble_eq_true rfl)) dL_law_791 ⟨by show _ ≤ 601024; omega, by show _ ≤ 7293034; omega⟩ ?_
  intro ad2 H locs had G
  rw [← had 0 h0T] at hl
  refine lv_istore (lv' := [(6, .int (vck 1 2 0 k1)), (5, .int (nI i)), (4, .ref ae), (3, .ref aj), (2, .ref (am 0)), (1, .ref (ad2 0)), (0, .ref b)]) hx hb dL_law_794 hl (by decide) rfl (fun ls hl => ?_)
  refine lv_aload_n hx hb dL_law_796 rfl (lv_at hl 4 rfl) ?_
  refine lv_aload_n hx hb dL_law_797 rfl (lv_at hl 6 rfl) ?_
  refine lv_iload hx hb dL_law_798 (lv_at hl 1 rfl) ?_
  refine lv_iconst (v := 1) hx hb dL_law_800 (by decide) ?_
  refine lv_iadd hx hb dL_law_801 ?_
  refine lv_to (y := nI (i + 1)) (nI_add i 1) ?_
  refine va_sld hx hb hX0 hbl (Nat.not_le.mpr hbl) G.2.2 (i := nI (i + 1)) (vp_in_nI (n := i + 1) (N := L) (by omega) (by omega)) dL_law_802 ?_
  refine lv_to (y := xs (i + 1)) (congrArg xs (nI_clamp (by omega))) ?_
  refine lv_aload_n hx hb dL_law_803 rfl (lv_at hl 6 rfl) ?_
  refine lv_iload hx hb dL_law_804 (lv_at hl 1 rfl) ?_
  refine lv_iconst (v := 2) hx hb dL_law_806 (by decide) ?_
  refine lv_iadd hx hb dL_law_807 ?_
  refine lv_to (y := nI (i + 2)) (nI_add i 2) ?_
  refine va_sld hx hb hX0 hbl (Nat.not_le.mpr hbl) G.2.2 (i := nI (i + 2)) (vp_in_nI (n := i + 2) (N := L) (by omega) (by omega)) dL_law_808 ?_
  refine lv_to (y := xs (i + 2)) (congrArg xs (nI_clamp (by omega))) ?_
  obtain ⟨⟨r2, S1⟩, hf, hj⟩ := sj_delay Sm (xs (i + 1)) (xs (i + 2)) hJ
  have hJ1 : JJ S1 := hj
  refine y_mi (As := [.int (xs (i + 1)), .int (xs (i + 2))]) (rest := []) E G hA hX.2.2.2.2 hml (tr_delay l D cI cJ cZ am Sm (xs (i + 1)) (xs (i + 2)) hf) (cwV 2 hts (glM (L := [Cond.methodLink RL 261 yX12_delay, Cond.instanceMethod yX12_delay, Cond.selects RX12 yX12_delay yX12_delay, Cond.initialized RX12]) (gl_in [(9, 112), (9, 113), (9, 114), (1, 14)] (by decide +kernel) (by decide +kernel)) ⟨(t_of [Cond.code yX12_delay cX12_delay 3 (some .int)] [(9, 115)] (by decide +kernel) _ List.mem_cons_self), List.all_eq_true.mp (by decide +kernel : [Cond.code yX12_delay cX12_delay 3 (some .int)].all goodWord = true) _ List.mem_cons_self⟩) rfl rfl rfl (by decide +kernel) ⟨Nat.le_of_ble_eq_true rfl, Nat.le_of_ble_eq_true rfl⟩) rfl hl.1 rfl (lv_room (Nat.le_of_ble_eq_true rfl)) dL_law_809 ⟨by show _ ≤ 601024; omega, by show _ ≤ 7293034; omega⟩ (fun H locs G => ?_)
  refine lv_istore (lv' := [(7, .int r2), (6, .int (vck 1 2 0 k1)), (5, .int (nI i)), (4, .ref ae), (3, .ref aj), (2, .ref (am 0)), (1, .ref (ad2 0)), (0, .ref b)]) hx hb dL_law_812 hl (by decide) rfl (fun ls hl => ?_)
  refine lv_goto (tgt := 2439) hx hb dL_law_814 (by decide) ?_
  have hl := lv_sub hl [2, 3, 4, 5, 6, 7] rfl
  refine W.widen (k := 19 + T1.1 + (j + 1)) (n := 38467 + sg T1 + 6 * (j + 1)) (by omega) (by omega) ?_
  exact kk ad2 (vfJ k1 f r1.toInt64) g H locs ls hg hf (had 0 h0T) hV1 hrc1 hJ1 G hl
set_option maxHeartbeats 4000000 in
set_option maxRecDepth 100000 in
theorem y_a17 {p : Program} {e : Env} {s : State} {m : MethodId} {below : List Frame} {meth : Method} {c : Code} (l : Launch) (hst : l.stackTraces = false) {b L : Nat} {xs : Nat → Int32} (hx : p.tables.exec = Jvm.exec) (hb : c.code = code) (hml : c.maxLocals = 9) (hown : s.vm.findClass RL = some m.cls) (hts : ∀ w ∈ lw_tbl, w.before #[Value.ref b] s = true) (hX0 : va_X b L xs s s.heap) (hbl : b < s.heap.size) (hX : xT (fun q => s.heap.size ≤ q) s) (hN : nC s) (hTS : sAll s.heap.size s) {D : va_G} {cI cJ cZ cMic cSrc cSt cAI cAJ cD : ClassId} (hK : va_K D vwCl (CT cI cJ cZ cMic cSrc cSt cAI cAJ ++ [(cD, .double)]) s) {Q : State → Prop} {i j : Nat} (hi : i + 6 ≤ L) (hL : L ≤ 3072) (hj : j < 512) {aj ae : Nat} {ad am : Nat → Nat} {T : AT} {Sm : MS} {f : Nat → Int64} {g : Nat → UInt64} {ls : Array Slot} {H : Heap} {locs : List Loc} (hV : IV aR0 1586 aK1 aK2 T) (hrc : RC T) (hJ : JJ Sm) (G : gL cI cJ cZ cMic cSrc cSt cAI cAJ D ad (fun q => s.heap.size ≤ q) s.heap H locs T (oJ aj cJ f :: oD ae cD g :: MW cI cJ cZ am Sm)) (hl : lv_has ls 9 [(5, .int (nI i)), (4, .ref ae), (3, .ref aj), (2, .ref (am 0)), (1, .ref (ad 0)), (0, .ref b)]) (kk : ∀ {k1 : Nat} {r1 : Int32} {T1 : AT} {r2 : Int32} {S1 : MS} (ad2 : Nat → Nat) (f1 : Nat → Int64) (g1 : Nat → UInt64) (H1 : Heap) (locs1 : List Loc) (ls1 : Array Slot), g_X11_delayTo T 0 (xs (i + 1)) (xs (i + 2)) (xs (i + 3)) = some (k1, r1, T1) → fr_delayTo Sm (xs (i + 1)) (xs (i + 2)) (xs (i + 3)) = some (r2, S1) → ad2 0 = ad 0 → IV aR0 1586 aK1 aK2 T1 → RC T1 → JJ S1 → gL cI cJ cZ cMic cSrc cSt cAI cAJ D ad2 (fun q => s.heap.size ≤ q) s.heap H1 locs1 T1 (oJ aj cJ f1 :: oD ae cD g1 :: MW cI cJ cZ am S1) → lv_has ls1 9 [(5, .int (nI i)), (4, .ref ae), (3, .ref aj), (2, .ref (am 0)), (1, .ref (ad2 0)), (0, .ref b)] → W p l e room_1 s m #[Value.ref b] below meth c H1 locs1 (19 + T1.1 + (j + 1)) (38467 + sg T1 + 6 * (j + 1)) Q (F0 m 2439 ls1 [])) : W p l e room_1 s m #[Value.ref b] below meth c H locs (19 + T.1 + j) (38467 + sg T + 6 * j) Q (F0 m 817 ls []) := by
  have E : cE p c cL_law s m #[Value.ref b] lw_tbl D RL (CT cI cJ cZ cMic cSrc cSt cAI cAJ ++ [(cD, .double)]) := ⟨hx, hb, hts, hown, hK⟩
  have hA : ∀ q : Nat, s.heap.size ≤ q → s.heap.size ≤ q := fun _ h => h
  have h0T : 0 < T.1 := Nat.lt_of_lt_of_le (by decide) hV.1.2.2
  have h0s : T.2.1 0 = (11, 0) := hV.2.1 0 ⟨by decide, by decide +kernel, by decide +kernel⟩
  refine lv_aload_n hx hb dL_law_817 rfl (lv_at hl 4 rfl) ?_
  refine lv_aload_n hx hb dL_law_818 rfl (lv_at hl 5 rfl) ?_
  refine lv_iload hx hb dL_law_819 (lv_at hl 0 rfl) ?_
  refine lv_iconst (v := 1) hx hb dL_law_821 (by decide) ?_
  refine lv_iadd hx hb dL_law_822 ?_
  refine lv_to (y := nI (i + 1)) (nI_add i 1) ?_
  refine va_sld hx hb hX0 hbl (Nat.not_le.mpr hbl) G.2.2 (i := nI (i + 1)) (vp_in_nI (n := i + 1) (N := L) (by omega) (by omega)) dL_law_823 ?_
  refine lv_to (y := xs (i + 1)) (congrArg xs (nI_clamp (by omega))) ?_
  refine lv_aload_n hx hb dL_law_824 rfl (lv_at hl 5 rfl) ?_
  refine lv_iload hx hb dL_law_825 (lv_at hl 0 rfl) ?_
  refine lv_iconst (v := 2) hx hb dL_law_827 (by decide) ?_
  refine lv_iadd hx hb dL_law_828 ?_
  refine lv_to (y := nI (i + 2)) (nI_add i 2) ?_
  refine va_sld hx hb hX0 hbl (Nat.not_le.mpr hbl) G.2.2 (i := nI (i + 2)) (vp_in_nI (n := i + 2) (N := L) (by omega) (by omega)) dL_law_829 ?_
  refine lv_to (y := xs (i + 2)) (congrArg xs (nI_clamp (by omega))) ?_
  refine lv_aload_n hx hb dL_law_830 rfl (lv_at hl 5 rfl) ?_
  refine lv_iload hx hb dL_law_831 (lv_at hl 0 rfl) ?_
  refine lv_iconst (v := 3) hx hb dL_law_833 (by decide) ?_
  refine lv_iadd hx hb dL_law_834 ?_
  refine lv_to (y := nI (i + 3)) (nI_add i 3) ?_
  refine va_sld hx hb hX0 hbl (Nat.not_le.mpr hbl) G.2.2 (i := nI (i + 3)) (vp_in_nI (n := i + 3) (N := L) (by omega) (by omega)) dL_law_835 ?_
  refine lv_to (y := xs (i + 3)) (congrArg xs (nI_clamp (by omega))) ?_
  refine lv_aload_n hx hb dL_law_836 rfl (lv_at hl 2 rfl) ?_
  obtain ⟨⟨k1, r1, T1⟩, hg, hc⟩ := cs_X11_delayTo T 0 (xs (i + 1)) (xs (i + 2)) (xs (i + 3)) hV (by decide +kernel)
  have hV1 : IV aR0 1586 aK1 aK2 T1 := by rw [show T1 = T from hc.1]; exact hV
  have hg1 := (gl_sp (s_X11_delayTo hg))
  have hg2 := sg_le hg1
  have hg3 := hg1.1
  have hk := hV1.2.2.2.2.2.2
  have hrc1 := hg1.2.2 hrc
  have hr0 := a_room
  refine l_v (h0 := s.heap.size) (As := [.ref (ad 0), .int (xs (i + 1)), .int (xs (i + 2)), .int (xs (i + 3)), .ref aj]) (rest := []) E G hA hX hN (fun _ h => h) hTS hml (v_delayTo l hst D s.heap.size ad T 0 (xs (i + 1)) (xs (i + 2)) (xs (i + 3)) aj f hg hrc h0T h0s) (vx_cwSW 5 hts (glA (L := [Cond.methodLink RL 262 yL_delayTo, Cond.static yL_delayTo, Cond.initialized RL]) (gl_in [(5, 113), (5, 114), (1, 0)] (by decide +kernel) (by decide +kernel)) ⟨(t_of [Cond.codeWith yL_delayTo cL_delayTo 6 (some .int) [(0, 12, 15, 21), (0, 12, 19, 13), (0, 12, 23, 15)]] [(5, 115)] (by decide +kernel) _ List.mem_cons_self), List.all_eq_true.mp (by decide +kernel : [Cond.codeWith yL_delayTo cL_delayTo 6 (some .int) [(0, 12, 15, 21), (0, 12, 19, 13), (0, 12, 23, 15)]].all goodWord = true) _ List.mem_cons_self⟩) rfl rfl rfl (by decide +kernel) ⟨Nat.le_of_ble_eq_true rfl, Nat.le_of_ble_eq_true rfl⟩) rfl hl.1 rfl (lv_room (Nat.le_of_ble_eq_true rfl)) dL_law_837 ⟨by show _ ≤ 601024; omega, by show _ ≤ 7293034; omega⟩ ?_
  intro ad2 H locs had G
  rw [← had 0 h0T] at hl
  refine lv_istore (lv' := [(6, .int (vck 1 2 3 k1)), (5, .int (nI i)), (4, .ref ae), (3, .ref aj), (2, .ref (am 0)), (1, .ref (ad2 0)), (0, .ref b)]) hx hb dL_law_840 hl (by decide) rfl (fun ls hl => ?_)
  refine lv_aload_n hx hb dL_law_842 rfl (lv_at hl 4 rfl) ?_
  refine lv_aload_n hx hb dL_law_843 rfl (lv_at hl 6 rfl) ?_
  refine lv_iload hx hb dL_law_844 (lv_at hl 1 rfl) ?_
  refine lv_iconst (v := 1) hx hb dL_law_846 (by decide) ?_
  refine lv_iadd hx hb dL_law_847 ?_
  refine lv_to (y := nI (i + 1)) (nI_add i 1) ?_
  refine va_sld hx hb hX0 hbl (Nat.not_le.mpr hbl) G.2.2 (i := nI (i + 1)) (vp_in_nI (n := i + 1) (N := L) (by omega) (by omega)) dL_law_848 ?_
  refine lv_to (y := xs (i + 1)) (congrArg xs (nI_clamp (by omega))) ?_
  refine lv_aload_n hx hb dL_law_849 rfl (lv_at hl 6 rfl) ?_
  refine lv_iload hx hb dL_law_850 (lv_at hl 1 rfl) ?_
  refine lv_iconst (v := 2) hx hb dL_law_852 (by decide) ?_
  refine lv_iadd hx hb dL_law_853 ?_
  refine lv_to (y := nI (i + 2)) (nI_add i 2) ?_
  refine va_sld hx hb hX0 hbl (Nat.not_le.mpr hbl) G.2.2 (i := nI (i + 2)) (vp_in_nI (n := i + 2) (N := L) (by omega) (by omega)) dL_law_854 ?_
  refine lv_to (y := xs (i + 2)) (congrArg xs (nI_clamp (by omega))) ?_
  refine lv_aload_n hx hb dL_law_855 rfl (lv_at hl 6 rfl) ?_
  refine lv_iload hx hb dL_law_856 (lv_at hl 1 rfl) ?_
  refine lv_iconst (v := 3) hx hb dL_law_858 (by decide) ?_
  refine lv_iadd hx hb dL_law_859 ?_
  refine lv_to (y := nI (i + 3)) (nI_add i 3) ?_
  refine va_sld hx hb hX0 hbl (Nat.not_le.mpr hbl) G.2.2 (i := nI (i + 3)) (vp_in_nI (n := i + 3) (N := L) (by omega) (by omega)) dL_law_860 ?_
  refine lv_to (y := xs (i + 3)) (congrArg xs (nI_clamp (by omega))) ?_
  obtain ⟨⟨r2, S1⟩, hf, hj⟩ := sj_delayTo Sm (xs (i + 1)) (xs (i + 2)) (xs (i + 3)) hJ
  have hJ1 : JJ S1 := hj
  refine y_mi (As := [.int (xs (i + 1)), .int (xs (i + 2)), .int (xs (i + 3))]) (rest := []) E G hA hX.2.2.2.2 hml (tr_delayTo l D cI cJ cZ am Sm (xs (i + 1)) (xs (i + 2)) (xs (i + 3)) hf) (cwV 3 hts (glM (L := [Cond.methodLink RL 264 yX12_delayTo, Cond.instanceMethod yX12_delayTo, Cond.selects RX12 yX12_delayTo yX12_delayTo, Cond.initialized RX12]) (gl_in [(9, 116), (9, 117), (9, 118), (1, 14)] (by decide +kernel) (by decide +kernel)) ⟨(t_of [Cond.code yX12_delayTo cX12_delayTo 4 (some .int)] [(9, 119)] (by decide +kernel) _ List.mem_cons_self), List.all_eq_true.mp (by decide +kernel : [Cond.code yX12_delayTo cX12_delayTo 4 (some .int)].all goodWord = true) _ List.mem_cons_self⟩) rfl rfl rfl (by decide +kernel) ⟨Nat.le_of_ble_eq_true rfl, Nat.le_of_ble_eq_true rfl⟩) rfl hl.1 rfl (lv_room (Nat.le_of_ble_eq_true rfl)) dL_law_861 ⟨by show _ ≤ 601024; omega, by show _ ≤ 7293034; omega⟩ (fun H locs G => ?_)
  refine lv_istore (lv' := [(7, .int r2), (6, .int (vck 1 2 3 k1)), (5, .int (nI i)), (4, .ref ae), (3, .ref aj), (2, .ref (am 0)), (1, .ref (ad2 0)), (0, .ref b)]) hx hb dL_law_864 hl (by decide) rfl (fun ls hl => ?_)
  refine lv_goto (tgt := 2439) hx hb dL_law_866 (by decide) ?_
  have hl := lv_sub hl [2, 3, 4, 5, 6, 7] rfl
  refine W.widen (k := 19 + T1.1 + (j + 1)) (n := 38467 + sg T1 + 6 * (j + 1)) (by omega) (by omega) ?_
  exact kk ad2 (vfJ k1 f r1.toInt64) g H locs ls hg hf (had 0 h0T) hV1 hrc1 hJ1 G hl
set_option maxHeartbeats 4000000 in
set_option maxRecDepth 100000 in
theorem y_a18 {p : Program} {e : Env} {s : State} {m : MethodId} {below : List Frame} {meth : Method} {c : Code} (l : Launch) (hst : l.stackTraces = false) {b L : Nat} {xs : Nat → Int32} (hx : p.tables.exec = Jvm.exec) (hb : c.code = code) (hml : c.maxLocals = 9) (hown : s.vm.findClass RL = some m.cls) (hts : ∀ w ∈ lw_tbl, w.before #[Value.ref b] s = true) (hX0 : va_X b L xs s s.heap) (hbl : b < s.heap.size) (hX : xT (fun q => s.heap.size ≤ q) s) (hN : nC s) (hTS : sAll s.heap.size s) {D : va_G} {cI cJ cZ cMic cSrc cSt cAI cAJ cD : ClassId} (hK : va_K D vwCl (CT cI cJ cZ cMic cSrc cSt cAI cAJ ++ [(cD, .double)]) s) {Q : State → Prop} {i j : Nat} (hi : i + 6 ≤ L) (hL : L ≤ 3072) (hj : j < 512) {aj ae : Nat} {ad am : Nat → Nat} {T : AT} {Sm : MS} {f : Nat → Int64} {g : Nat → UInt64} {ls : Array Slot} {H : Heap} {locs : List Loc} (hV : IV aR0 1586 aK1 aK2 T) (hrc : RC T) (hJ : JJ Sm) (G : gL cI cJ cZ cMic cSrc cSt cAI cAJ D ad (fun q => s.heap.size ≤ q) s.heap H locs T (oJ aj cJ f :: oD ae cD g :: MW cI cJ cZ am Sm)) (hl : lv_has ls 9 [(5, .int (nI i)), (4, .ref ae), (3, .ref aj), (2, .ref (am 0)), (1, .ref (ad 0)), (0, .ref b)]) (kk : ∀ {k1 : Nat} {r1 : Int32} {T1 : AT} {r2 : Int32} {S1 : MS} (ad2 : Nat → Nat) (f1 : Nat → Int64) (g1 : Nat → UInt64) (H1 : Heap) (locs1 : List Loc) (ls1 : Array Slot), g_X11_spread T 0 (xs (i + 1)) = some (k1, r1, T1) → fr_spread Sm (xs (i + 1)) = some (r2, S1) → ad2 0 = ad 0 → IV aR0 1586 aK1 aK2 T1 → RC T1 → JJ S1 → gL cI cJ cZ cMic cSrc cSt cAI cAJ D ad2 (fun q => s.heap.size ≤ q) s.heap H1 locs1 T1 (oJ aj cJ f1 :: oD ae cD g1 :: MW cI cJ cZ am S1) → lv_has ls1 9 [(5, .int (nI i)), (4, .ref ae), (3, .ref aj), (2, .ref (am 0)), (1, .ref (ad2 0)), (0, .ref b)] → W p l e room_1 s m #[Value.ref b] below meth c H1 locs1 (19 + T1.1 + (j + 1)) (38467 + sg T1 + 6 * (j + 1)) Q (F0 m 2439 ls1 [])) : W p l e room_1 s m #[Value.ref b] below meth c H locs (19 + T.1 + j) (38467 + sg T + 6 * j) Q (F0 m 869 ls []) := by
  have E : cE p c cL_law s m #[Value.ref b] lw_tbl D RL (CT cI cJ cZ cMic cSrc cSt cAI cAJ ++ [(cD, .double)]) := ⟨hx, hb, hts, hown, hK⟩
  have hA : ∀ q : Nat, s.heap.size ≤ q → s.heap.size ≤ q := fun _ h => h
  have h0T : 0 < T.1 := Nat.lt_of_lt_of_le (by decide) hV.1.2.2
  have h0s : T.2.1 0 = (11, 0) := hV.2.1 0 ⟨by decide, by decide +kernel, by decide +kernel⟩
  refine lv_aload_n hx hb dL_law_869 rfl (lv_at hl 4 rfl) ?_
  refine lv_aload_n hx hb dL_law_870 rfl (lv_at hl 5 rfl) ?_
  refine lv_iload hx hb dL_law_871 (lv_at hl 0 rfl) ?_
  refine lv_iconst (v := 1) hx hb dL_law_873 (by decide) ?_
  refine lv_iadd hx hb dL_law_874 ?_
  refine lv_to (y := nI (i + 1)) (nI_add i 1) ?_
  refine va_sld hx hb hX0 hbl (Nat.not_le.mpr hbl) G.2.2 (i := nI (i + 1)) (vp_in_nI (n := i + 1) (N := L) (by omega) (by omega)) dL_law_875 ?_
  refine lv_to (y := xs (i + 1)) (congrArg xs (nI_clamp (by omega))) ?_
  refine lv_aload_n hx hb dL_law_876 rfl (lv_at hl 2 rfl) ?_
  obtain ⟨⟨k1, r1, T1⟩, hg, hc⟩ := cs_X11_spread T 0 (xs (i + 1)) hV (by decide +kernel)
  have hV1 : IV aR0 1586 aK1 aK2 T1 := by rw [show T1 = T from hc.1]; exact hV
  have hg1 := (gl_sp (s_X11_spread hg))
  have hg2 := sg_le hg1
  have hg3 := hg1.1
  have hk := hV1.2.2.2.2.2.2
  have hrc1 := hg1.2.2 hrc
  have hr0 := a_room
  refine l_v (h0 := s.heap.size) (As := [.ref (ad 0), .int (xs (i + 1)), .ref aj]) (rest := []) E G hA hX hN (fun _ h => h) hTS hml (v_spread l hst D s.heap.size ad T 0 (xs (i + 1)) aj f hg hrc h0T h0s) (vx_cwSW 3 hts (glA (L := [Cond.methodLink RL 265 yL_spread, Cond.static yL_spread, Cond.initialized RL]) (gl_in [(5, 121), (5, 122), (1, 0)] (by decide +kernel) (by decide +kernel)) ⟨(t_of [Cond.codeWith yL_spread cL_spread 4 (some .int) [(0, 9, 12, 21), (0, 9, 15, 13)]] [(5, 123)] (by decide +kernel) _ List.mem_cons_self), List.all_eq_true.mp (by decide +kernel : [Cond.codeWith yL_spread cL_spread 4 (some .int) [(0, 9, 12, 21), (0, 9, 15, 13)]].all goodWord = true) _ List.mem_cons_self⟩) rfl rfl rfl (by decide +kernel) ⟨Nat.le_of_ble_eq_true rfl, Nat.le_of_ble_eq_true rfl⟩) rfl hl.1 rfl (lv_room (Nat.le_of_ble_eq_true rfl)) dL_law_877 ⟨by show _ ≤ 601024; omega, by show _ ≤ 7293034; omega⟩ ?_
  intro ad2 H locs had G
  rw [← had 0 h0T] at hl
  refine lv_istore (lv' := [(6, .int (vck 1 2 0 k1)), (5, .int (nI i)), (4, .ref ae), (3, .ref aj), (2, .ref (am 0)), (1, .ref (ad2 0)), (0, .ref b)]) hx hb dL_law_880 hl (by decide) rfl (fun ls hl => ?_)
  refine lv_aload_n hx hb dL_law_882 rfl (lv_at hl 4 rfl) ?_
  refine lv_aload_n hx hb dL_law_883 rfl (lv_at hl 6 rfl) ?_
  refine lv_iload hx hb dL_law_884 (lv_at hl 1 rfl) ?_
  refine lv_iconst (v := 1) hx hb dL_law_886 (by decide) ?_
  refine lv_iadd hx hb dL_law_887 ?_
  refine lv_to (y := nI (i + 1)) (nI_add i 1) ?_
  refine va_sld hx hb hX0 hbl (Nat.not_le.mpr hbl) G.2.2 (i := nI (i + 1)) (vp_in_nI (n := i + 1) (N := L) (by omega) (by omega)) dL_law_888 ?_
  refine lv_to (y := xs (i + 1)) (congrArg xs (nI_clamp (by omega))) ?_
  obtain ⟨⟨r2, S1⟩, hf, hj⟩ := sj_spread Sm (xs (i + 1)) hJ
  have hJ1 : JJ S1 := hj
  refine y_mi (As := [.int (xs (i + 1))]) (rest := []) E G hA hX.2.2.2.2 hml (tr_spread l D cI cJ cZ am Sm (xs (i + 1)) hf) (cwV 1 hts (glM (L := [Cond.methodLink RL 267 yX12_spread, Cond.instanceMethod yX12_spread, Cond.selects RX12 yX12_spread yX12_spread, Cond.initialized RX12]) (gl_in [(9, 123), (9, 124), (9, 125), (1, 14)] (by decide +kernel) (by decide +kernel)) ⟨(t_of [Cond.code yX12_spread cX12_spread 5 (some .int)] [(9, 126)] (by decide +kernel) _ List.mem_cons_self), List.all_eq_true.mp (by decide +kernel : [Cond.code yX12_spread cX12_spread 5 (some .int)].all goodWord = true) _ List.mem_cons_self⟩) rfl rfl rfl (by decide +kernel) ⟨Nat.le_of_ble_eq_true rfl, Nat.le_of_ble_eq_true rfl⟩) rfl hl.1 rfl (lv_room (Nat.le_of_ble_eq_true rfl)) dL_law_889 ⟨by show _ ≤ 601024; omega, by show _ ≤ 7293034; omega⟩ (fun H locs G => ?_)
  refine lv_istore (lv' := [(7, .int r2), (6, .int (vck 1 2 0 k1)), (5, .int (nI i)), (4, .ref ae), (3, .ref aj), (2, .ref (am 0)), (1, .ref (ad2 0)), (0, .ref b)]) hx hb dL_law_892 hl (by decide) rfl (fun ls hl => ?_)
  refine lv_goto (tgt := 2439) hx hb dL_law_894 (by decide) ?_
  have hl := lv_sub hl [2, 3, 4, 5, 6, 7] rfl
  refine W.widen (k := 19 + T1.1 + (j + 1)) (n := 38467 + sg T1 + 6 * (j + 1)) (by omega) (by omega) ?_
  exact kk ad2 (vfJ k1 f r1.toInt64) g H locs ls hg hf (had 0 h0T) hV1 hrc1 hJ1 G hl
set_option maxHeartbeats 4000000 in
set_option maxRecDepth 100000 in
theorem y_a19 {p : Program} {e : Env} {s : State} {m : MethodId} {below : List Frame} {meth : Method} {c : Code} (l : Launch) (hst : l.stackTraces = false) {b L : Nat} {xs : Nat → Int32} (hx : p.tables.exec = Jvm.exec) (hb : c.code = code) (hml : c.maxLocals = 9) (hown : s.vm.findClass RL = some m.cls) (hts : ∀ w ∈ lw_tbl, w.before #[Value.ref b] s = true) (hX0 : va_X b L xs s s.heap) (hbl : b < s.heap.size) (hX : xT (fun q => s.heap.size ≤ q) s) (hN : nC s) (hTS : sAll s.heap.size s) {D : va_G} {cI cJ cZ cMic cSrc cSt cAI cAJ cD : ClassId} (hK : va_K D vwCl (CT cI cJ cZ cMic cSrc cSt cAI cAJ ++ [(cD, .double)]) s) {Q : State → Prop} {i j : Nat} (hi : i + 6 ≤ L) (hL : L ≤ 3072) (hj : j < 512) {aj ae : Nat} {ad am : Nat → Nat} {T : AT} {Sm : MS} {f : Nat → Int64} {g : Nat → UInt64} {ls : Array Slot} {H : Heap} {locs : List Loc} (hV : IV aR0 1586 aK1 aK2 T) (hrc : RC T) (hJ : JJ Sm) (G : gL cI cJ cZ cMic cSrc cSt cAI cAJ D ad (fun q => s.heap.size ≤ q) s.heap H locs T (oJ aj cJ f :: oD ae cD g :: MW cI cJ cZ am Sm)) (hl : lv_has ls 9 [(5, .int (nI i)), (4, .ref ae), (3, .ref aj), (2, .ref (am 0)), (1, .ref (ad 0)), (0, .ref b)]) (kk : ∀ {k1 : Nat} {r1 : Int32} {T1 : AT} {r2 : Int32} {S1 : MS} (ad2 : Nat → Nat) (f1 : Nat → Int64) (g1 : Nat → UInt64) (H1 : Heap) (locs1 : List Loc) (ls1 : Array Slot), g_X11_window T 0 (xs (i + 1)) = some (k1, r1, T1) → fr_window Sm (xs (i + 1)) = some (r2, S1) → ad2 0 = ad 0 → IV aR0 1586 aK1 aK2 T1 → RC T1 → JJ S1 → gL cI cJ cZ cMic cSrc cSt cAI cAJ D ad2 (fun q => s.heap.size ≤ q) s.heap H1 locs1 T1 (oJ aj cJ f1 :: oD ae cD g1 :: MW cI cJ cZ am S1) → lv_has ls1 9 [(5, .int (nI i)), (4, .ref ae), (3, .ref aj), (2, .ref (am 0)), (1, .ref (ad2 0)), (0, .ref b)] → W p l e room_1 s m #[Value.ref b] below meth c H1 locs1 (19 + T1.1 + (j + 1)) (38467 + sg T1 + 6 * (j + 1)) Q (F0 m 2439 ls1 [])) : W p l e room_1 s m #[Value.ref b] below meth c H locs (19 + T.1 + j) (38467 + sg T + 6 * j) Q (F0 m 897 ls []) := by
  have E : cE p c cL_law s m #[Value.ref b] lw_tbl D RL (CT cI cJ cZ cMic cSrc cSt cAI cAJ ++ [(cD, .double)]) := ⟨hx, hb, hts, hown, hK⟩
  have hA : ∀ q : Nat, s.heap.size ≤ q → s.heap.size ≤ q := fun _ h => h
  have h0T : 0 < T.1 := Nat.lt_of_lt_of_le (by decide) hV.1.2.2
  have h0s : T.2.1 0 = (11, 0) := hV.2.1 0 ⟨by decide, by decide +kernel, by decide +kernel⟩
  refine lv_aload_n hx hb dL_law_897 rfl (lv_at hl 4 rfl) ?_
  refine lv_aload_n hx hb dL_law_898 rfl (lv_at hl 5 rfl) ?_
  refine lv_iload hx hb dL_law_899 (lv_at hl 0 rfl) ?_
  refine lv_iconst (v := 1) hx hb dL_law_901 (by decide) ?_
  refine lv_iadd hx hb dL_law_902 ?_
  refine lv_to (y := nI (i + 1)) (nI_add i 1) ?_
  refine va_sld hx hb hX0 hbl (Nat.not_le.mpr hbl) G.2.2 (i := nI (i + 1)) (vp_in_nI (n := i + 1) (N := L) (by omega) (by omega)) dL_law_903 ?_
  refine lv_to (y := xs (i + 1)) (congrArg xs (nI_clamp (by omega))) ?_
  refine lv_aload_n hx hb dL_law_904 rfl (lv_at hl 2 rfl) ?_
  obtain ⟨⟨k1, r1, T1⟩, hg, hc⟩ := cs_X11_window T 0 (xs (i + 1)) hV (by decide +kernel)
  have hV1 : IV aR0 1586 aK1 aK2 T1 := by rw [show T1 = T from hc.1]; exact hV
  have hg1 := (gl_sp (s_X11_window hg))
  have hg2 := sg_le hg1
  have hg3 := hg1.1
  have hk := hV1.2.2.2.2.2.2
  have hrc1 := hg1.2.2 hrc
  have hr0 := a_room
  refine l_v (h0 := s.heap.size) (As := [.ref (ad 0), .int (xs (i + 1)), .ref aj]) (rest := []) E G hA hX hN (fun _ h => h) hTS hml (v_window l hst D s.heap.size ad T 0 (xs (i + 1)) aj f hg hrc h0T h0s) (vx_cwSW 3 hts (glA (L := [Cond.methodLink RL 268 yL_window, Cond.static yL_window, Cond.initialized RL]) (gl_in [(5, 139), (5, 140), (1, 0)] (by decide +kernel) (by decide +kernel)) ⟨(t_of [Cond.codeWith yL_window cL_window 4 (some .int) [(0, 9, 12, 21), (0, 9, 15, 13)]] [(5, 141)] (by decide +kernel) _ List.mem_cons_self), List.all_eq_true.mp (by decide +kernel : [Cond.codeWith yL_window cL_window 4 (some .int) [(0, 9, 12, 21), (0, 9, 15, 13)]].all goodWord = true) _ List.mem_cons_self⟩) rfl rfl rfl (by decide +kernel) ⟨Nat.le_of_ble_eq_true rfl, Nat.le_of_ble_eq_true rfl⟩) rfl hl.1 rfl (lv_room (Nat.le_of_ble_eq_true rfl)) dL_law_905 ⟨by show _ ≤ 601024; omega, by show _ ≤ 7293034; omega⟩ ?_
  intro ad2 H locs had G
  rw [← had 0 h0T] at hl
  refine lv_istore (lv' := [(6, .int (vck 1 2 0 k1)), (5, .int (nI i)), (4, .ref ae), (3, .ref aj), (2, .ref (am 0)), (1, .ref (ad2 0)), (0, .ref b)]) hx hb dL_law_908 hl (by decide) rfl (fun ls hl => ?_)
  refine lv_aload_n hx hb dL_law_910 rfl (lv_at hl 4 rfl) ?_
  refine lv_aload_n hx hb dL_law_911 rfl (lv_at hl 6 rfl) ?_
  refine lv_iload hx hb dL_law_912 (lv_at hl 1 rfl) ?_
  refine lv_iconst (v := 1) hx hb dL_law_914 (by decide) ?_
  refine lv_iadd hx hb dL_law_915 ?_
  refine lv_to (y := nI (i + 1)) (nI_add i 1) ?_
  refine va_sld hx hb hX0 hbl (Nat.not_le.mpr hbl) G.2.2 (i := nI (i + 1)) (vp_in_nI (n := i + 1) (N := L) (by omega) (by omega)) dL_law_916 ?_
  refine lv_to (y := xs (i + 1)) (congrArg xs (nI_clamp (by omega))) ?_
  obtain ⟨⟨r2, S1⟩, hf, hj⟩ := sj_window Sm (xs (i + 1)) hJ
  have hJ1 : JJ S1 := hj
  refine y_mi (As := [.int (xs (i + 1))]) (rest := []) E G hA hX.2.2.2.2 hml (tr_window l D cI cJ cZ am Sm (xs (i + 1)) hf) (cwV 1 hts (glM (L := [Cond.methodLink RL 270 yX12_window, Cond.instanceMethod yX12_window, Cond.selects RX12 yX12_window yX12_window, Cond.initialized RX12]) (gl_in [(9, 132), (9, 133), (9, 134), (1, 14)] (by decide +kernel) (by decide +kernel)) ⟨(t_of [Cond.code yX12_window cX12_window 2 (some .int)] [(9, 135)] (by decide +kernel) _ List.mem_cons_self), List.all_eq_true.mp (by decide +kernel : [Cond.code yX12_window cX12_window 2 (some .int)].all goodWord = true) _ List.mem_cons_self⟩) rfl rfl rfl (by decide +kernel) ⟨Nat.le_of_ble_eq_true rfl, Nat.le_of_ble_eq_true rfl⟩) rfl hl.1 rfl (lv_room (Nat.le_of_ble_eq_true rfl)) dL_law_917 ⟨by show _ ≤ 601024; omega, by show _ ≤ 7293034; omega⟩ (fun H locs G => ?_)
  refine lv_istore (lv' := [(7, .int r2), (6, .int (vck 1 2 0 k1)), (5, .int (nI i)), (4, .ref ae), (3, .ref aj), (2, .ref (am 0)), (1, .ref (ad2 0)), (0, .ref b)]) hx hb dL_law_920 hl (by decide) rfl (fun ls hl => ?_)
  refine lv_goto (tgt := 2439) hx hb dL_law_922 (by decide) ?_
  have hl := lv_sub hl [2, 3, 4, 5, 6, 7] rfl
  refine W.widen (k := 19 + T1.1 + (j + 1)) (n := 38467 + sg T1 + 6 * (j + 1)) (by omega) (by omega) ?_
  exact kk ad2 (vfJ k1 f r1.toInt64) g H locs ls hg hf (had 0 h0T) hV1 hrc1 hJ1 G hl
set_option maxHeartbeats 4000000 in
set_option maxRecDepth 100000 in
theorem y_a20 {p : Program} {e : Env} {s : State} {m : MethodId} {below : List Frame} {meth : Method} {c : Code} (l : Launch) (hst : l.stackTraces = false) {b L : Nat} {xs : Nat → Int32} (hx : p.tables.exec = Jvm.exec) (hb : c.code = code) (hml : c.maxLocals = 9) (hown : s.vm.findClass RL = some m.cls) (hts : ∀ w ∈ lw_tbl, w.before #[Value.ref b] s = true) (hX0 : va_X b L xs s s.heap) (hbl : b < s.heap.size) (hX : xT (fun q => s.heap.size ≤ q) s) (hN : nC s) (hTS : sAll s.heap.size s) {D : va_G} {cI cJ cZ cMic cSrc cSt cAI cAJ cD : ClassId} (hK : va_K D vwCl (CT cI cJ cZ cMic cSrc cSt cAI cAJ ++ [(cD, .double)]) s) {Q : State → Prop} {i j : Nat} (hi : i + 6 ≤ L) (hL : L ≤ 3072) (hj : j < 512) {aj ae : Nat} {ad am : Nat → Nat} {T : AT} {Sm : MS} {f : Nat → Int64} {g : Nat → UInt64} {ls : Array Slot} {H : Heap} {locs : List Loc} (hV : IV aR0 1586 aK1 aK2 T) (hrc : RC T) (hJ : JJ Sm) (G : gL cI cJ cZ cMic cSrc cSt cAI cAJ D ad (fun q => s.heap.size ≤ q) s.heap H locs T (oJ aj cJ f :: oD ae cD g :: MW cI cJ cZ am Sm)) (hl : lv_has ls 9 [(5, .int (nI i)), (4, .ref ae), (3, .ref aj), (2, .ref (am 0)), (1, .ref (ad 0)), (0, .ref b)]) (kk : ∀ {k1 : Nat} {r1 : Int32} {T1 : AT} {r2 : Int32} {S1 : MS} (ad2 : Nat → Nat) (f1 : Nat → Int64) (g1 : Nat → UInt64) (H1 : Heap) (locs1 : List Loc) (ls1 : Array Slot), g_X11_sample T 0 (xs (i + 1)) (xs (i + 2)) = some (k1, r1, T1) → fr_sample Sm (xs (i + 1)) (xs (i + 2)) = some (r2, S1) → ad2 0 = ad 0 → IV aR0 1586 aK1 aK2 T1 → RC T1 → JJ S1 → gL cI cJ cZ cMic cSrc cSt cAI cAJ D ad2 (fun q => s.heap.size ≤ q) s.heap H1 locs1 T1 (oJ aj cJ f1 :: oD ae cD g1 :: MW cI cJ cZ am S1) → lv_has ls1 9 [(5, .int (nI i)), (4, .ref ae), (3, .ref aj), (2, .ref (am 0)), (1, .ref (ad2 0)), (0, .ref b)] → W p l e room_1 s m #[Value.ref b] below meth c H1 locs1 (19 + T1.1 + (j + 1)) (38467 + sg T1 + 6 * (j + 1)) Q (F0 m 2439 ls1 [])) : W p l e room_1 s m #[Value.ref b] below meth c H locs (19 + T.1 + j) (38467 + sg T + 6 * j) Q (F0 m 925 ls []) := by
  have E : cE p c cL_law s m #[Value.ref b] lw_tbl D RL (CT cI cJ cZ cMic cSrc cSt cAI cAJ ++ [(cD, .double)]) := ⟨hx, hb, hts, hown, hK⟩
  have hA : ∀ q : Nat, s.heap.size ≤ q → s.heap.size ≤ q := fun _ h => h
  have h0T : 0 < T.1 := Nat.lt_of_lt_of_le (by decide) hV.1.2.2
  have h0s : T.2.1 0 = (11, 0) := hV.2.1 0 ⟨by decide, by decide +kernel, by decide +kernel⟩
  refine lv_aload_n hx hb dL_law_925 rfl (lv_at hl 4 rfl) ?_
  refine lv_aload_n hx hb dL_law_926 rfl (lv_at hl 5 rfl) ?_
  refine lv_iload hx hb dL_law_927 (lv_at hl 0 rfl) ?_
  refine lv_iconst (v := 1) hx hb dL_law_929 (by decide) ?_
  refine lv_iadd hx hb dL_law_930 ?_
  refine lv_to (y := nI (i + 1)) (nI_add i 1) ?_
  refine va_sld hx hb hX0 hbl (Nat.not_le.mpr hbl) G.2.2 (i := nI (i + 1)) (vp_in_nI (n := i + 1) (N := L) (by omega) (by omega)) dL_law_931 ?_
  refine lv_to (y := xs (i + 1)) (congrArg xs (nI_clamp (by omega))) ?_
  refine lv_aload_n hx hb dL_law_932 rfl (lv_at hl 5 rfl) ?_
  refine lv_iload hx hb dL_law_933 (lv_at hl 0 rfl) ?_
  refine lv_iconst (v := 2) hx hb dL_law_935 (by decide) ?_
  refine lv_iadd hx hb dL_law_936 ?_
  refine lv_to (y := nI (i + 2)) (nI_add i 2) ?_
  refine va_sld hx hb hX0 hbl (Nat.not_le.mpr hbl) G.2.2 (i := nI (i + 2)) (vp_in_nI (n := i + 2) (N := L) (by omega) (by omega)) dL_law_937 ?_
  refine lv_to (y := xs (i + 2)) (congrArg xs (nI_clamp (by omega))) ?_
  refine lv_aload_n hx hb dL_law_938 rfl (lv_at hl 2 rfl) ?_
  obtain ⟨⟨k1, r1, T1⟩, hg, hc⟩ := cs_X11_sample T 0 (xs (i + 1)) (xs (i + 2)) hV (by decide +kernel)
  have hV1 : IV aR0 1586 aK1 aK2 T1 := by rw [show T1 = T from hc.1]; exact hV
  have hg1 := (gl_sp (s_X11_sample hg))
  have hg2 := sg_le hg1
  have hg3 := hg1.1
  have hk := hV1.2.2.2.2.2.2
  have hrc1 := hg1.2.2 hrc
  have hr0 := a_room
  refine l_v (h0 := s.heap.size) (As := [.ref (ad 0), .int (xs (i + 1)), .int (xs (i + 2)), .ref aj]) (rest := []) E G hA hX hN (fun _ h => h) hTS hml (v_sample l hst D s.heap.size ad T 0 (xs (i + 1)) (xs (i + 2)) aj f hg hrc h0T h0s) (vx_cwSW 4 hts (glA (L := [Cond.methodLink RL 271 yL_sample, Cond.static yL_sample, Cond.initialized RL]) (gl_in [(5, 150), (5, 151), (1, 0)] (by decide +kernel) (by decide +kernel)) ⟨(t_of [Cond.codeWith yL_sample cL_sample 5 (some .int) [(0, 10, 13, 21), (0, 10, 17, 13), (0, 10, 21, 15)]] [(5, 152)] (by decide +kernel) _ List.mem_cons_self), List.all_eq_true.mp (by decide +kernel : [Cond.codeWith yL_sample cL_sample 5 (some .int) [(0, 10, 13, 21), (0, 10, 17, 13), (0, 10, 21, 15)]].all goodWord = true) _ List.mem_cons_self⟩) rfl rfl rfl (by decide +kernel) ⟨Nat.le_of_ble_eq_true rfl, Nat.le_of_ble_eq_true rfl⟩) rfl hl.1 rfl (lv_room (Nat.le_of_ble_eq_true rfl)) dL_law_939 ⟨by show _ ≤ 601024; omega, by show _ ≤ 7293034; omega⟩ ?_
  intro ad2 H locs had G
  rw [← had 0 h0T] at hl
  refine lv_istore (lv' := [(6, .int (vck 1 2 3 k1)), (5, .int (nI i)), (4, .ref ae), (3, .ref aj), (2, .ref (am 0)), (1, .ref (ad2 0)), (0, .ref b)]) hx hb dL_law_942 hl (by decide) rfl (fun ls hl => ?_)
  refine lv_aload_n hx hb dL_law_944 rfl (lv_at hl 4 rfl) ?_
  refine lv_aload_n hx hb dL_law_945 rfl (lv_at hl 6 rfl) ?_
  refine lv_iload hx hb dL_law_946 (lv_at hl 1 rfl) ?_
  refine lv_iconst (v := 1) hx hb dL_law_948 (by decide) ?_
  refine lv_iadd hx hb dL_law_949 ?_
  refine lv_to (y := nI (i + 1)) (nI_add i 1) ?_
  refine va_sld hx hb hX0 hbl (Nat.not_le.mpr hbl) G.2.2 (i := nI (i + 1)) (vp_in_nI (n := i + 1) (N := L) (by omega) (by omega)) dL_law_950 ?_
  refine lv_to (y := xs (i + 1)) (congrArg xs (nI_clamp (by omega))) ?_
  refine lv_aload_n hx hb dL_law_951 rfl (lv_at hl 6 rfl) ?_
  refine lv_iload hx hb dL_law_952 (lv_at hl 1 rfl) ?_
  refine lv_iconst (v := 2) hx hb dL_law_954 (by decide) ?_
  refine lv_iadd hx hb dL_law_955 ?_
  refine lv_to (y := nI (i + 2)) (nI_add i 2) ?_
  refine va_sld hx hb hX0 hbl (Nat.not_le.mpr hbl) G.2.2 (i := nI (i + 2)) (vp_in_nI (n := i + 2) (N := L) (by omega) (by omega)) dL_law_956 ?_
  refine lv_to (y := xs (i + 2)) (congrArg xs (nI_clamp (by omega))) ?_
  obtain ⟨⟨r2, S1⟩, hf, hj⟩ := sj_sample Sm (xs (i + 1)) (xs (i + 2)) hJ
  have hJ1 : JJ S1 := hj
  refine y_mi (As := [.int (xs (i + 1)), .int (xs (i + 2))]) (rest := []) E G hA hX.2.2.2.2 hml (tr_sample l D cI cJ cZ am Sm (xs (i + 1)) (xs (i + 2)) hf) (cwV 2 hts (glM (L := [Cond.methodLink RL 273 yX12_sample, Cond.instanceMethod yX12_sample, Cond.selects RX12 yX12_sample yX12_sample, Cond.initialized RX12]) (gl_in [(9, 144), (9, 145), (9, 146), (1, 14)] (by decide +kernel) (by decide +kernel)) ⟨(t_of [Cond.code yX12_sample cX12_sample 3 (some .int)] [(9, 147)] (by decide +kernel) _ List.mem_cons_self), List.all_eq_true.mp (by decide +kernel : [Cond.code yX12_sample cX12_sample 3 (some .int)].all goodWord = true) _ List.mem_cons_self⟩) rfl rfl rfl (by decide +kernel) ⟨Nat.le_of_ble_eq_true rfl, Nat.le_of_ble_eq_true rfl⟩) rfl hl.1 rfl (lv_room (Nat.le_of_ble_eq_true rfl)) dL_law_957 ⟨by show _ ≤ 601024; omega, by show _ ≤ 7293034; omega⟩ (fun H locs G => ?_)
  refine lv_istore (lv' := [(7, .int r2), (6, .int (vck 1 2 3 k1)), (5, .int (nI i)), (4, .ref ae), (3, .ref aj), (2, .ref (am 0)), (1, .ref (ad2 0)), (0, .ref b)]) hx hb dL_law_960 hl (by decide) rfl (fun ls hl => ?_)
  refine lv_goto (tgt := 2439) hx hb dL_law_962 (by decide) ?_
  have hl := lv_sub hl [2, 3, 4, 5, 6, 7] rfl
  refine W.widen (k := 19 + T1.1 + (j + 1)) (n := 38467 + sg T1 + 6 * (j + 1)) (by omega) (by omega) ?_
  exact kk ad2 (vfJ k1 f r1.toInt64) g H locs ls hg hf (had 0 h0T) hV1 hrc1 hJ1 G hl
set_option maxHeartbeats 4000000 in
set_option maxRecDepth 100000 in
theorem y_a21 {p : Program} {e : Env} {s : State} {m : MethodId} {below : List Frame} {meth : Method} {c : Code} (l : Launch) (hst : l.stackTraces = false) {b L : Nat} {xs : Nat → Int32} (hx : p.tables.exec = Jvm.exec) (hb : c.code = code) (hml : c.maxLocals = 9) (hown : s.vm.findClass RL = some m.cls) (hts : ∀ w ∈ lw_tbl, w.before #[Value.ref b] s = true) (hX0 : va_X b L xs s s.heap) (hbl : b < s.heap.size) (hX : xT (fun q => s.heap.size ≤ q) s) (hN : nC s) (hTS : sAll s.heap.size s) {D : va_G} {cI cJ cZ cMic cSrc cSt cAI cAJ cD : ClassId} (hK : va_K D vwCl (CT cI cJ cZ cMic cSrc cSt cAI cAJ ++ [(cD, .double)]) s) {Q : State → Prop} {i j : Nat} (hi : i + 6 ≤ L) (hL : L ≤ 3072) (hj : j < 512) {aj ae : Nat} {ad am : Nat → Nat} {T : AT} {Sm : MS} {f : Nat → Int64} {g : Nat → UInt64} {ls : Array Slot} {H : Heap} {locs : List Loc} (hV : IV aR0 1586 aK1 aK2 T) (hrc : RC T) (hJ : JJ Sm) (G : gL cI cJ cZ cMic cSrc cSt cAI cAJ D ad (fun q => s.heap.size ≤ q) s.heap H locs T (oJ aj cJ f :: oD ae cD g :: MW cI cJ cZ am Sm)) (hl : lv_has ls 9 [(5, .int (nI i)), (4, .ref ae), (3, .ref aj), (2, .ref (am 0)), (1, .ref (ad 0)), (0, .ref b)]) (kk : ∀ {k1 : Nat} {r1 : Int32} {T1 : AT} {r2 : Int32} {S1 : MS} (ad2 : Nat → Nat) (f1 : Nat → Int64) (g1 : Nat → UInt64) (H1 : Heap) (locs1 : List Loc) (ls1 : Array Slot), g_X11_beam T 0 (xs (i + 1)) (xs (i + 2)) = some (k1, r1, T1) → fr_beam Sm (xs (i + 1)) (xs (i + 2)) = some (r2, S1) → ad2 0 = ad 0 → IV aR0 1586 aK1 aK2 T1 → RC T1 → JJ S1 → gL cI cJ cZ cMic cSrc cSt cAI cAJ D ad2 (fun q => s.heap.size ≤ q) s.heap H1 locs1 T1 (oJ aj cJ f1 :: oD ae cD g1 :: MW cI cJ cZ am S1) → lv_has ls1 9 [(5, .int (nI i)), (4, .ref ae), (3, .ref aj), (2, .ref (am 0)), (1, .ref (ad2 0)), (0, .ref b)] → W p l e room_1 s m #[Value.ref b] below meth c H1 locs1 (19 + T1.1 + (j + 1)) (38467 + sg T1 + 6 * (j + 1)) Q (F0 m 2439 ls1 [])) : W p l e room_1 s m #[Value.ref b] below meth c H locs (19 + T.1 + j) (38467 + sg T + 6 * j) Q (F0 m 965 ls []) := by
  have E : cE p c cL_law s m #[Value.ref b] lw_tbl D RL (CT cI cJ cZ cMic cSrc cSt cAI cAJ ++ [(cD, .double)]) := ⟨hx, hb, hts, hown, hK⟩
  have hA : ∀ q : Nat, s.heap.size ≤ q → s.heap.size ≤ q := fun _ h => h
  have h0T : 0 < T.1 := Nat.lt_of_lt_of_le (by decide) hV.1.2.2
  have h0s : T.2.1 0 = (11, 0) := hV.2.1 0 ⟨by decide, by decide +kernel, by decide +kernel⟩
  refine lv_aload_n hx hb dL_law_965 rfl (lv_at hl 4 rfl) ?_
  refine lv_aload_n hx hb dL_law_966 rfl (lv_at hl 5 rfl) ?_
  refine lv_iload hx hb dL_law_967 (lv_at hl 0 rfl) ?_
  refine lv_iconst (v := 1) hx hb dL_law_969 (by decide) ?_
  refine lv_iadd hx hb dL_law_970 ?_
  refine lv_to (y := nI (i + 1)) (nI_add i 1) ?_
  refine va_sld hx hb hX0 hbl (Nat.not_le.mpr hbl) G.2.2 (i := nI (i + 1)) (vp_in_nI (n := i + 1) (N := L) (by omega) (by omega)) dL_law_971 ?_
  refine lv_to (y := xs (i + 1)) (congrArg xs (nI_clamp (by omega))) ?_
  refine lv_aload_n hx hb dL_law_972 rfl (lv_at hl 5 rfl) ?_
  refine lv_iload hx hb dL_law_973 (lv_at hl 0 rfl) ?_
  refine lv_iconst (v := 2) hx hb dL_law_975 (by decide) ?_
  refine lv_iadd hx hb dL_law_976 ?_
  refine lv_to (y := nI (i + 2)) (nI_add i 2) ?_
  refine va_sld hx hb hX0 hbl (Nat.not_le.mpr hbl) G.2.2 (i := nI (i + 2)) (vp_in_nI (n := i + 2) (N := L) (by omega) (by omega)) dL_law_977 ?_
  refine lv_to (y := xs (i + 2)) (congrArg xs (nI_clamp (by omega))) ?_
  refine lv_aload_n hx hb dL_law_978 rfl (lv_at hl 2 rfl) ?_
  obtain ⟨⟨k1, r1, T1⟩, hg, hc⟩ := cs_X11_beam T 0 (xs (i + 1)) (xs (i + 2)) hV (by decide +kernel)
  have hV1 : IV aR0 1586 aK1 aK2 T1 := hc.1.1
  have hg1 := s_X11_beam hg
  have hg2 := sg_le hg1
  have hg3 := hg1.1
  have hk := hV1.2.2.2.2.2.2
  have hrc1 := hg1.2.2 hrc
  have hr0 := a_room
  refine l_v (h0 := s.heap.size) (As := [.ref (ad 0), .int (xs (i + 1)), .int (xs (i + 2)), .ref aj]) (rest := []) E G hA hX hN (fun _ h => h) hTS hml (v_beam l hst D s.heap.size ad T 0 (xs (i + 1)) (xs (i + 2)) aj f hg hrc h0T h0s) (vx_cwSW 4 hts (glA (L := [Cond.methodLink RL 274 yL_beam, Cond.static yL_beam, Cond.initialized RL]) (gl_in [(5, 162), (5, 163), (1, 0)] (by decide +kernel) (by decide +kernel)) ⟨(t_of [Cond.codeWith yL_beam cL_beam 5 (some .int) [(0, 10, 13, 21), (0, 10, 17, 13), (0, 10, 21, 15)]] [(5, 164)] (by decide +kernel) _ List.mem_cons_self), List.all_eq_true.mp (by decide +kernel : [Cond.codeWith yL_beam cL_beam 5 (some .int) [(0, 10, 13, 21), (0, 10, 17, 13), (0, 10, 21, 15)]].all goodWord = true) _ List.mem_cons_self⟩) rfl rfl rfl (by decide +kernel) ⟨Nat.le_of_ble_eq_true rfl, Nat.le_of_ble_eq_true rfl⟩) rfl hl.1 rfl (lv_room (Nat.le_of_ble_eq_true rfl)) dL_law_979 ⟨by show _ ≤ 601024; omega, by show _ ≤ 7293034; omega⟩ ?_
  intro ad2 H locs had G
  rw [← had 0 h0T] at hl
  refine lv_istore (lv' := [(6, .int (vck 1 2 3 k1)), (5, .int (nI i)), (4, .ref ae), (3, .ref aj), (2, .ref (am 0)), (1, .ref (ad2 0)), (0, .ref b)]) hx hb dL_law_982 hl (by decide) rfl (fun ls hl => ?_)
  refine lv_aload_n hx hb dL_law_984 rfl (lv_at hl 4 rfl) ?_
  refine lv_aload_n hx hb dL_law_985 rfl (lv_at hl 6 rfl) ?_
  refine lv_iload hx hb dL_law_986 (lv_at hl 1 rfl) ?_
  refine lv_iconst (v := 1) hx hb dL_law_988 (by decide) ?_
  refine lv_iadd hx hb dL_law_989 ?_
  refine lv_to (y := nI (i + 1)) (nI_add i 1) ?_
  refine va_sld hx hb hX0 hbl (Nat.not_le.mpr hbl) G.2.2 (i := nI (i + 1)) (vp_in_nI (n := i + 1) (N := L) (by omega) (by omega)) dL_law_990 ?_
  refine lv_to (y := xs (i + 1)) (congrArg xs (nI_clamp (by omega))) ?_
  refine lv_aload_n hx hb dL_law_991 rfl (lv_at hl 6 rfl) ?_
  refine lv_iload hx hb dL_law_992 (lv_at hl 1 rfl) ?_
  refine lv_iconst (v := 2) hx hb dL_law_994 (by decide) ?_
  refine lv_iadd hx hb dL_law_995 ?_
  refine lv_to (y := nI (i + 2)) (nI_add i 2) ?_
  refine va_sld hx hb hX0 hbl (Nat.not_le.mpr hbl) G.2.2 (i := nI (i + 2)) (vp_in_nI (n := i + 2) (N := L) (by omega) (by omega)) dL_law_996 ?_
  refine lv_to (y := xs (i + 2)) (congrArg xs (nI_clamp (by omega))) ?_
  obtain ⟨⟨r2, S1⟩, hf, hj⟩ := sj_beam Sm (xs (i + 1)) (xs (i + 2)) hJ
  have hJ1 : JJ S1 := hj
  refine y_mi (As := [.int (xs (i + 1)), .int (xs (i + 2))]) (rest := []) E G hA hX.2.2.2.2 hml (tr_beam l D cI cJ cZ am Sm (xs (i + 1)) (xs (i + 2)) hf) (cwV 2 hts (glM (L := [Cond.methodLink RL 276 yX12_beam, Cond.instanceMethod yX12_beam, Cond.selects RX12 yX12_beam yX12_beam, Cond.initialized RX12]) (gl_in [(9, 148), (9, 149), (9, 150), (1, 14)] (by decide +kernel) (by decide +kernel)) ⟨(t_of [Cond.code yX12_beam cX12_beam 3 (some .int)] [(9, 151)] (by decide +kernel) _ List.mem_cons_self), List.all_eq_true.mp (by decide +kernel : [Cond.code yX12_beam cX12_beam 3 (some .int)].all goodWord = true) _ List.mem_cons_self⟩) rfl rfl rfl (by decide +kernel) ⟨Nat.le_of_ble_eq_true rfl, Nat.le_of_ble_eq_true rfl⟩) rfl hl.1 rfl (lv_room (Nat.le_of_ble_eq_true rfl)) dL_law_997 ⟨by show _ ≤ 601024; omega, by show _ ≤ 7293034; omega⟩ (fun H locs G => ?_)
  refine lv_istore (lv' := [(7, .int r2), (6, .int (vck 1 2 3 k1)), (5, .int (nI i)), (4, .ref ae), (3, .ref aj), (2, .ref (am 0)), (1, .ref (ad2 0)), (0, .ref b)]) hx hb dL_law_1000 hl (by decide) rfl (fun ls hl => ?_)
  refine lv_goto (tgt := 2439) hx hb dL_law_1002 (by decide) ?_
  have hl := lv_sub hl [2, 3, 4, 5, 6, 7] rfl
  refine W.widen (k := 19 + T1.1 + (j + 1)) (n := 38467 + sg T1 + 6 * (j + 1)) (by omega) (by omega) ?_
  exact kk ad2 (vfJ k1 f r1.toInt64) g H locs ls hg hf (had 0 h0T) hV1 hrc1 hJ1 G hl
set_option maxHeartbeats 4000000 in
set_option maxRecDepth 100000 in
theorem y_a22 {p : Program} {e : Env} {s : State} {m : MethodId} {below : List Frame} {meth : Method} {c : Code} (l : Launch) (hst : l.stackTraces = false) {b L : Nat} {xs : Nat → Int32} (hx : p.tables.exec = Jvm.exec) (hb : c.code = code) (hml : c.maxLocals = 9) (hown : s.vm.findClass RL = some m.cls) (hts : ∀ w ∈ lw_tbl, w.before #[Value.ref b] s = true) (hX0 : va_X b L xs s s.heap) (hbl : b < s.heap.size) (hX : xT (fun q => s.heap.size ≤ q) s) (hN : nC s) (hTS : sAll s.heap.size s) {D : va_G} {cI cJ cZ cMic cSrc cSt cAI cAJ cD : ClassId} (hK : va_K D vwCl (CT cI cJ cZ cMic cSrc cSt cAI cAJ ++ [(cD, .double)]) s) {Q : State → Prop} {i j : Nat} (hi : i + 6 ≤ L) (hL : L ≤ 3072) (hj : j < 512) {aj ae : Nat} {ad am : Nat → Nat} {T : AT} {Sm : MS} {f : Nat → Int64} {g : Nat → UInt64} {ls : Array Slot} {H : Heap} {locs : List Loc} (hV : IV aR0 1586 aK1 aK2 T) (hrc : RC T) (hJ : JJ Sm) (G : gL cI cJ cZ cMic cSrc cSt cAI cAJ D ad (fun q => s.heap.size ≤ q) s.heap H locs T (oJ aj cJ f :: oD ae cD g :: MW cI cJ cZ am Sm)) (hl : lv_has ls 9 [(5, .int (nI i)), (4, .ref ae), (3, .ref aj), (2, .ref (am 0)), (1, .ref (ad 0)), (0, .ref b)]) (kk : ∀ {k1 : Nat} {r1 : Int64} {T1 : AT} {r2 : Int64} {S1 : MS} (ad2 : Nat → Nat) (f1 : Nat → Int64) (g1 : Nat → UInt64) (H1 : Heap) (locs1 : List Loc) (ls1 : Array Slot), g_X11_power T 0 (xs (i + 1)) = some (k1, r1, T1) → fr_power Sm (xs (i + 1)) = some (r2, S1) → ad2 0 = ad 0 → IV aR0 1586 aK1 aK2 T1 → RC T1 → JJ S1 → gL cI cJ cZ cMic cSrc cSt cAI cAJ D ad2 (fun q => s.heap.size ≤ q) s.heap H1 locs1 T1 (oJ aj cJ f1 :: oD ae cD g1 :: MW cI cJ cZ am S1) → lv_has ls1 9 [(5, .int (nI i)), (4, .ref ae), (3, .ref aj), (2, .ref (am 0)), (1, .ref (ad2 0)), (0, .ref b)] → W p l e room_1 s m #[Value.ref b] below meth c H1 locs1 (19 + T1.1 + (j + 1)) (38467 + sg T1 + 6 * (j + 1)) Q (F0 m 2439 ls1 [])) : W p l e room_1 s m #[Value.ref b] below meth c H locs (19 + T.1 + j) (38467 + sg T + 6 * j) Q (F0 m 1005 ls []) := by
  have E : cE p c cL_law s m #[Value.ref b] lw_tbl D RL (CT cI cJ cZ cMic cSrc cSt cAI cAJ ++ [(cD, .double)]) := ⟨hx, hb, hts, hown, hK⟩
  have hA : ∀ q : Nat, s.heap.size ≤ q → s.heap.size ≤ q := fun _ h => h
  have h0T : 0 < T.1 := Nat.lt_of_lt_of_le (by decide) hV.1.2.2
  have h0s : T.2.1 0 = (11, 0) := hV.2.1 0 ⟨by decide, by decide +kernel, by decide +kernel⟩
  refine lv_aload_n hx hb dL_law_1005 rfl (lv_at hl 4 rfl) ?_
  refine lv_aload_n hx hb dL_law_1006 rfl (lv_at hl 5 rfl) ?_
  refine lv_iload hx hb dL_law_1007 (lv_at hl 0 rfl) ?_
  refine lv_iconst (v := 1) hx hb dL_law_1009 (by decide) ?_
  refine lv_iadd hx hb dL_law_1010 ?_
  refine lv_to (y := nI (i + 1)) (nI_add i 1) ?_
  refine va_sld hx hb hX0 hbl (Nat.not_le.mpr hbl) G.2.2 (i := nI (i + 1)) (vp_in_nI (n := i + 1) (N := L) (by omega) (by omega)) dL_law_1011 ?_
  refine lv_to (y := xs (i + 1)) (congrArg xs (nI_clamp (by omega))) ?_
  refine lv_aload_n hx hb dL_law_1012 rfl (lv_at hl 2 rfl) ?_
  obtain ⟨⟨k1, r1, T1⟩, hg, hc⟩ := cs_X11_power T 0 (xs (i + 1)) hV (by decide +kernel)
  have hV1 : IV aR0 1586 aK1 aK2 T1 := hc.1.1
  have hg1 := s_X11_power hg
  have hg2 := sg_le hg1
  have hg3 := hg1.1
  have hk := hV1.2.2.2.2.2.2
  have hrc1 := hg1.2.2 hrc
  have hr0 := a_room
  refine l_v (h0 := s.heap.size) (As := [.ref (ad 0), .int (xs (i + 1)), .ref aj]) (rest := []) E G hA hX hN (fun _ h => h) hTS hml (v_power l hst D s.heap.size ad T 0 (xs (i + 1)) aj f hg hrc h0T h0s) (vx_cwSW 3 hts (glA (L := [Cond.methodLink RL 277 yL_power, Cond.static yL_power, Cond.initialized RL]) (gl_in [(5, 181), (5, 182), (1, 0)] (by decide +kernel) (by decide +kernel)) ⟨(t_of [Cond.codeWith yL_power cL_power 4 (some .int) [(0, 8, 11, 21), (0, 8, 14, 13)]] [(5, 183)] (by decide +kernel) _ List.mem_cons_self), List.all_eq_true.mp (by decide +kernel : [Cond.codeWith yL_power cL_power 4 (some .int) [(0, 8, 11, 21), (0, 8, 14, 13)]].all goodWord = true) _ List.mem_cons_self⟩) rfl rfl rfl (by decide +kernel) ⟨Nat.le_of_ble_eq_true rfl, Nat.le_of_ble_eq_true rfl⟩) rfl hl.1 rfl (lv_room (Nat.le_of_ble_eq_true rfl)) dL_law_1013 ⟨by show _ ≤ 601024; omega, by show _ ≤ 7293034; omega⟩ ?_
  intro ad2 H locs had G
  rw [← had 0 h0T] at hl
  refine lv_istore (lv' := [(6, .int (vck 1 2 0 k1)), (5, .int (nI i)), (4, .ref ae), (3, .ref aj), (2, .ref (am 0)), (1, .ref (ad2 0)), (0, .ref b)]) hx hb dL_law_1016 hl (by decide) rfl (fun ls hl => ?_)
  refine lv_aload_n hx hb dL_law_1018 rfl (lv_at hl 4 rfl) ?_
  refine lv_aload_n hx hb dL_law_1019 rfl (lv_at hl 6 rfl) ?_
  refine lv_iload hx hb dL_law_1020 (lv_at hl 1 rfl) ?_
  refine lv_iconst (v := 1) hx hb dL_law_1022 (by decide) ?_
  refine lv_iadd hx hb dL_law_1023 ?_
  refine lv_to (y := nI (i + 1)) (nI_add i 1) ?_
  refine va_sld hx hb hX0 hbl (Nat.not_le.mpr hbl) G.2.2 (i := nI (i + 1)) (vp_in_nI (n := i + 1) (N := L) (by omega) (by omega)) dL_law_1024 ?_
  refine lv_to (y := xs (i + 1)) (congrArg xs (nI_clamp (by omega))) ?_
  obtain ⟨⟨r2, S1⟩, hf, hj⟩ := sj_power Sm (xs (i + 1)) hJ
  have hJ1 : JJ S1 := hj
  refine y_ml (As := [.int (xs (i + 1))]) (rest := []) E G hA hX.2.2.2.2 hml (tr_power l D cI cJ cZ am Sm (xs (i + 1)) hf) (cwV 1 hts (glM (L := [Cond.methodLink RL 279 yX12_power, Cond.instanceMethod yX12_power, Cond.selects RX12 yX12_power yX12_power, Cond.initialized RX12]) (gl_in [(9, 156), (9, 157), (9, 158), (1, 14)] (by decide +kernel) (by decide +kernel)) ⟨(t_of [Cond.code yX12_power cX12_power 2 (some .long)] [(9, 159)] (by decide +kernel) _ List.mem_cons_self), List.all_eq_true.mp (by decide +kernel : [Cond.code yX12_power cX12_power 2 (some .long)].all goodWord = true) _ List.mem_cons_self⟩) rfl rfl rfl (by decide +kernel) ⟨Nat.le_of_ble_eq_true rfl, Nat.le_of_ble_eq_true rfl⟩) rfl hl.1 rfl (lv_room (Nat.le_of_ble_eq_true rfl)) dL_law_1025 ⟨by show _ ≤ 601024; omega, by show _ ≤ 7293034; omega⟩ (fun H locs G => ?_)
  refine lv_lstore (lv' := [(7, .long r2), (6, .int (vck 1 2 0 k1)), (5, .int (nI i)), (4, .ref ae), (3, .ref aj), (2, .ref (am 0)), (1, .ref (ad2 0)), (0, .ref b)]) hx hb dL_law_1028 hl (by decide) rfl (fun ls hl => ?_)
  refine lv_goto (tgt := 2439) hx hb dL_law_1030 (by decide) ?_
  have hl := lv_sub hl [2, 3, 4, 5, 6, 7] rfl
  refine W.widen (k := 19 + T1.1 + (j + 1)) (n := 38467 + sg T1 + 6 * (j + 1)) (by omega) (by omega) ?_
  exact kk ad2 (vfJ k1 f r1) g H locs ls hg hf (had 0 h0T) hV1 hrc1 hJ1 G hl
set_option maxHeartbeats 4000000 in
set_option maxRecDepth 100000 in
theorem y_a23 {p : Program} {e : Env} {s : State} {m : MethodId} {below : List Frame} {meth : Method} {c : Code} (l : Launch) (hst : l.stackTraces = false) {b L : Nat} {xs : Nat → Int32} (hx : p.tables.exec = Jvm.exec) (hb : c.code = code) (hml : c.maxLocals = 9) (hown : s.vm.findClass RL = some m.cls) (hts : ∀ w ∈ lw_tbl, w.before #[Value.ref b] s = true) (hX0 : va_X b L xs s s.heap) (hbl : b < s.heap.size) (hX : xT (fun q => s.heap.size ≤ q) s) (hN : nC s) (hTS : sAll s.heap.size s) {D : va_G} {cI cJ cZ cMic cSrc cSt cAI cAJ cD : ClassId} (hK : va_K D vwCl (CT cI cJ cZ cMic cSrc cSt cAI cAJ ++ [(cD, .double)]) s) {Q : State → Prop} {i j : Nat} (hi : i + 6 ≤ L) (hL : L ≤ 3072) (hj : j < 512) {aj ae : Nat} {ad am : Nat → Nat} {T : AT} {Sm : MS} {f : Nat → Int64} {g : Nat → UInt64} {ls : Array Slot} {H : Heap} {locs : List Loc} (hV : IV aR0 1586 aK1 aK2 T) (hrc : RC T) (hJ : JJ Sm) (G : gL cI cJ cZ cMic cSrc cSt cAI cAJ D ad (fun q => s.heap.size ≤ q) s.heap H locs T (oJ aj cJ f :: oD ae cD g :: MW cI cJ cZ am Sm)) (hl : lv_has ls 9 [(5, .int (nI i)), (4, .ref ae), (3, .ref aj), (2, .ref (am 0)), (1, .ref (ad 0)), (0, .ref b)]) (kk : ∀ {k1 : Nat} {r1 : Int64} {T1 : AT} {r2 : Int64} {S1 : MS} (ad2 : Nat → Nat) (f1 : Nat → Int64) (g1 : Nat → UInt64) (H1 : Heap) (locs1 : List Loc) (ls1 : Array Slot), g_X11_powerAt T 0 (xs (i + 1)) (xs (i + 2)) = some (k1, r1, T1) → fr_powerAt Sm (xs (i + 1)) (xs (i + 2)) = some (r2, S1) → ad2 0 = ad 0 → IV aR0 1586 aK1 aK2 T1 → RC T1 → JJ S1 → gL cI cJ cZ cMic cSrc cSt cAI cAJ D ad2 (fun q => s.heap.size ≤ q) s.heap H1 locs1 T1 (oJ aj cJ f1 :: oD ae cD g1 :: MW cI cJ cZ am S1) → lv_has ls1 9 [(5, .int (nI i)), (4, .ref ae), (3, .ref aj), (2, .ref (am 0)), (1, .ref (ad2 0)), (0, .ref b)] → W p l e room_1 s m #[Value.ref b] below meth c H1 locs1 (19 + T1.1 + (j + 1)) (38467 + sg T1 + 6 * (j + 1)) Q (F0 m 2439 ls1 [])) : W p l e room_1 s m #[Value.ref b] below meth c H locs (19 + T.1 + j) (38467 + sg T + 6 * j) Q (F0 m 1033 ls []) := by
  have E : cE p c cL_law s m #[Value.ref b] lw_tbl D RL (CT cI cJ cZ cMic cSrc cSt cAI cAJ ++ [(cD, .double)]) := ⟨hx, hb, hts, hown, hK⟩
  have hA : ∀ q : Nat, s.heap.size ≤ q → s.heap.size ≤ q := fun _ h => h
  have h0T : 0 < T.1 := Nat.lt_of_lt_of_le (by decide) hV.1.2.2
  have h0s : T.2.1 0 = (11, 0) := hV.2.1 0 ⟨by decide, by decide +kernel, by decide +kernel⟩
  refine lv_aload_n hx hb dL_law_1033 rfl (lv_at hl 4 rfl) ?_
  refine lv_aload_n hx hb dL_law_1034 rfl (lv_at hl 5 rfl) ?_
  refine lv_iload hx hb dL_law_1035 (lv_at hl 0 rfl) ?_
  refine lv_iconst (v := 1) hx hb dL_law_1037 (by decide) ?_
  refine lv_iadd hx hb dL_law_1038 ?_
  refine lv_to (y := nI (i + 1)) (nI_add i 1) ?_
  refine va_sld hx hb hX0 hbl (Nat.not_le.mpr hbl) G.2.2 (i := nI (i + 1)) (vp_in_nI (n := i + 1) (N := L) (by omega) (by omega)) dL_law_1039 ?_
  refine lv_to (y := xs (i + 1)) (congrArg xs (nI_clamp (by omega))) ?_
  refine lv_aload_n hx hb dL_law_1040 rfl (lv_at hl 5 rfl) ?_
  refine lv_iload hx hb dL_law_1041 (lv_at hl 0 rfl) ?_
  refine lv_iconst (v := 2) hx hb dL_law_1043 (by decide) ?_
  refine lv_iadd hx hb dL_law_1044 ?_
  refine lv_to (y := nI (i + 2)) (nI_add i 2) ?_
  refine va_sld hx hb hX0 hbl (Nat.not_le.mpr hbl) G.2.2 (i := nI (i + 2)) (vp_in_nI (n := i + 2) (N := L) (by omega) (by omega)) dL_law_1045 ?_
  refine lv_to (y := xs (i + 2)) (congrArg xs (nI_clamp (by omega))) ?_
  refine lv_aload_n hx hb dL_law_1046 rfl (lv_at hl 2 rfl) ?_
  obtain ⟨⟨k1, r1, T1⟩, hg, hc⟩ := cs_X11_powerAt T 0 (xs (i + 1)) (xs (i + 2)) hV (by decide +kernel)
  have hV1 : IV aR0 1586 aK1 aK2 T1 := hc.1.1
  have hg1 := s_X11_powerAt hg
  have hg2 := sg_le hg1
  have hg3 := hg1.1
  have hk := hV1.2.2.2.2.2.2
  have hrc1 := hg1.2.2 hrc
  have hr0 := a_room
  refine l_v (h0 := s.heap.size) (As := [.ref (ad 0), .int (xs (i + 1)), .int (xs (i + 2)), .ref aj]) (rest := []) E G hA hX hN (fun _ h => h) hTS hml (v_powerAt l hst D s.heap.size ad T 0 (xs (i + 1)) (xs (i + 2)) aj f hg hrc h0T h0s) (vx_cwSW 4 hts (glA (L := [Cond.methodLink RL 280 yL_powerAt, Cond.static yL_powerAt, Cond.initialized RL]) (gl_in [(6, 10), (6, 11), (1, 0)] (by decide +kernel) (by decide +kernel)) ⟨(t_of [Cond.codeWith yL_powerAt cL_powerAt 5 (some .int) [(0, 9, 12, 21), (0, 9, 16, 15)]] [(6, 12)] (by decide +kernel) _ List.mem_cons_self), List.all_eq_true.mp (by decide +kernel : [Cond.codeWith yL_powerAt cL_powerAt 5 (some .int) [(0, 9, 12, 21), (0, 9, 16, 15)]].all goodWord = true) _ List.mem_cons_self⟩) rfl rfl rfl (by decide +kernel) ⟨Nat.le_of_ble_eq_true rfl, Nat.le_of_ble_eq_true rfl⟩) rfl hl.1 rfl (lv_room (Nat.le_of_ble_eq_true rfl)) dL_law_1047 ⟨by show _ ≤ 601024; omega, by show _ ≤ 7293034; omega⟩ ?_
  intro ad2 H locs had G
  rw [← had 0 h0T] at hl
  refine lv_istore (lv' := [(6, .int (vck 1 0 2 k1)), (5, .int (nI i)), (4, .ref ae), (3, .ref aj), (2, .ref (am 0)), (1, .ref (ad2 0)), (0, .ref b)]) hx hb dL_law_1050 hl (by decide) rfl (fun ls hl => ?_)
  refine lv_aload_n hx hb dL_law_1052 rfl (lv_at hl 4 rfl) ?_
  refine lv_aload_n hx hb dL_law_1053 rfl (lv_at hl 6 rfl) ?_
  refine lv_iload hx hb dL_law_1054 (lv_at hl 1 rfl) ?_
  refine lv_iconst (v := 1) hx hb dL_law_1056 (by decide) ?_
  refine lv_iadd hx hb dL_law_1057 ?_
  refine lv_to (y := nI (i + 1)) (nI_add i 1) ?_
  refine va_sld hx hb hX0 hbl (Nat.not_le.mpr hbl) G.2.2 (i := nI (i + 1)) (vp_in_nI (n := i + 1) (N := L) (by omega) (by omega)) dL_law_1058 ?_
  refine lv_to (y := xs (i + 1)) (congrArg xs (nI_clamp (by omega))) ?_
  refine lv_aload_n hx hb dL_law_1059 rfl (lv_at hl 6 rfl) ?_
  refine lv_iload hx hb dL_law_1060 (lv_at hl 1 rfl) ?_
  refine lv_iconst (v := 2) hx hb dL_law_1062 (by decide) ?_
  refine lv_iadd hx hb dL_law_1063 ?_
  refine lv_to (y := nI (i + 2)) (nI_add i 2) ?_
  refine va_sld hx hb hX0 hbl (Nat.not_le.mpr hbl) G.2.2 (i := nI (i + 2)) (vp_in_nI (n := i + 2) (N := L) (by omega) (by omega)) dL_law_1064 ?_
  refine lv_to (y := xs (i + 2)) (congrArg xs (nI_clamp (by omega))) ?_
  obtain ⟨⟨r2, S1⟩, hf, hj⟩ := sj_powerAt Sm (xs (i + 1)) (xs (i + 2)) hJ
  have hJ1 : JJ S1 := hj
  refine y_ml (As := [.int (xs (i + 1)), .int (xs (i + 2))]) (rest := []) E G hA hX.2.2.2.2 hml (tr_powerAt l D cI cJ cZ am Sm (xs (i + 1)) (xs (i + 2)) hf) (cwV 2 hts (glM (L := [Cond.methodLink RL 282 yX12_powerAt, Cond.instanceMethod yX12_powerAt, Cond.selects RX12 yX12_powerAt yX12_powerAt, Cond.initialized RX12]) (gl_in [(9, 172), (9, 173), (9, 174), (1, 14)] (by decide +kernel) (by decide +kernel)) ⟨(t_of [Cond.code yX12_powerAt cX12_powerAt 3 (some .long)] [(9, 175)] (by decide +kernel) _ List.mem_cons_self), List.all_eq_true.mp (by decide +kernel : [Cond.code yX12_powerAt cX12_powerAt 3 (some .long)].all goodWord = true) _ List.mem_cons_self⟩) rfl rfl rfl (by decide +kernel) ⟨Nat.le_of_ble_eq_true rfl, Nat.le_of_ble_eq_true rfl⟩) rfl hl.1 rfl (lv_room (Nat.le_of_ble_eq_true rfl)) dL_law_1065 ⟨by show _ ≤ 601024; omega, by show _ ≤ 7293034; omega⟩ (fun H locs G => ?_)
  refine lv_lstore (lv' := [(7, .long r2), (6, .int (vck 1 0 2 k1)), (5, .int (nI i)), (4, .ref ae), (3, .ref aj), (2, .ref (am 0)), (1, .ref (ad2 0)), (0, .ref b)]) hx hb dL_law_1068 hl (by decide) rfl (fun ls hl => ?_)
  refine lv_goto (tgt := 2439) hx hb dL_law_1070 (by decide) ?_
  have hl := lv_sub hl [2, 3, 4, 5, 6, 7] rfl
  refine W.widen (k := 19 + T1.1 + (j + 1)) (n := 38467 + sg T1 + 6 * (j + 1)) (by omega) (by omega) ?_
  exact kk ad2 (vfJ k1 f r1) g H locs ls hg hf (had 0 h0T) hV1 hrc1 hJ1 G hl
