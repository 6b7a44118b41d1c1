theorem dL_law_743 : decode cL_law 743 = .ok (.iastore, 1) := by decide +kernel
theorem dL_law_744 : decode cL_law 744 = .ok (.invokestatic 130, 3) := by decide +kernel
theorem dL_law_747 : decode cL_law 747 = .ok (.iload 7, 2) := by decide +kernel
theorem dL_law_749 : decode cL_law 749 = .ok (.if_icmp .ne 57, 3) := by decide +kernel
theorem dL_law_752 : decode cL_law 752 = .ok (.aload_n 1, 1) := by decide +kernel
theorem dL_law_753 : decode cL_law 753 = .ok (.bipush 109, 2) := by decide +kernel
theorem dL_law_755 : decode cL_law 755 = .ok (.iconst 2, 1) := by decide +kernel
theorem dL_law_756 : decode cL_law 756 = .ok (.newarray .int, 2) := by decide +kernel
theorem dL_law_758 : decode cL_law 758 = .ok (.dup, 1) := by decide +kernel
theorem dL_law_759 : decode cL_law 759 = .ok (.iconst 0, 1) := by decide +kernel
theorem dL_law_760 : decode cL_law 760 = .ok (.bipush 16, 2) := by decide +kernel
theorem dL_law_762 : decode cL_law 762 = .ok (.iastore, 1) := by decide +kernel
theorem dL_law_763 : decode cL_law 763 = .ok (.dup, 1) := by decide +kernel
theorem dL_law_764 : decode cL_law 764 = .ok (.iconst 1, 1) := by decide +kernel
theorem dL_law_765 : decode cL_law 765 = .ok (.iconst 0, 1) := by decide +kernel
theorem dL_law_766 : decode cL_law 766 = .ok (.iastore, 1) := by decide +kernel
theorem dL_law_767 : decode cL_law 767 = .ok (.invokestatic 130, 3) := by decide +kernel
theorem dL_law_770 : decode cL_law 770 = .ok (.iload 7, 2) := by decide +kernel
theorem dL_law_772 : decode cL_law 772 = .ok (.if_icmp .ne 34, 3) := by decide +kernel
theorem dL_law_775 : decode cL_law 775 = .ok (.aload_n 1, 1) := by decide +kernel
theorem dL_law_776 : decode cL_law 776 = .ok (.bipush 109, 2) := by decide +kernel
theorem dL_law_778 : decode cL_law 778 = .ok (.iconst 2, 1) := by decide +kernel
theorem dL_law_779 : decode cL_law 779 = .ok (.newarray .int, 2) := by decide +kernel
theorem dL_law_781 : decode cL_law 781 = .ok (.dup, 1) := by decide +kernel
theorem dL_law_782 : decode cL_law 782 = .ok (.iconst 0, 1) := by decide +kernel
theorem dL_law_783 : decode cL_law 783 = .ok (.iconst 0, 1) := by decide +kernel
theorem dL_law_784 : decode cL_law 784 = .ok (.iastore, 1) := by decide +kernel
theorem dL_law_785 : decode cL_law 785 = .ok (.dup, 1) := by decide +kernel
theorem dL_law_786 : decode cL_law 786 = .ok (.iconst 1, 1) := by decide +kernel
theorem dL_law_787 : decode cL_law 787 = .ok (.bipush (-16), 2) := by decide +kernel
theorem dL_law_789 : decode cL_law 789 = .ok (.iastore, 1) := by decide +kernel
theorem dL_law_790 : decode cL_law 790 = .ok (.invokestatic 130, 3) := by decide +kernel
theorem dL_law_793 : decode cL_law 793 = .ok (.iload 7, 2) := by decide +kernel
theorem dL_law_795 : decode cL_law 795 = .ok (.if_icmp .ne 11, 3) := by decide +kernel
theorem dL_law_798 : decode cL_law 798 = .ok (.aload_n 1, 1) := by decide +kernel
theorem dL_law_799 : decode cL_law 799 = .ok (.aload_n 2, 1) := by decide +kernel
theorem dL_law_800 : decode cL_law 800 = .ok (.invokestatic 158, 3) := by decide +kernel
theorem dL_law_803 : decode cL_law 803 = .ok (.ifCond .ne 5, 3) := by decide +kernel
theorem dL_law_806 : decode cL_law 806 = .ok (.iconst 0, 1) := by decide +kernel
theorem dL_law_807 : decode cL_law 807 = .ok (.ireturn, 1) := by decide +kernel
theorem dL_law_808 : decode cL_law 808 = .ok (.aload_n 1, 1) := by decide +kernel
theorem dL_law_809 : decode cL_law 809 = .ok (.bipush 113, 2) := by decide +kernel
theorem dL_law_811 : decode cL_law 811 = .ok (.iconst 0, 1) := by decide +kernel
theorem dL_law_812 : decode cL_law 812 = .ok (.invokestatic 163, 3) := by decide +kernel
theorem dL_law_815 : decode cL_law 815 = .ok (.sipush (-1002), 3) := by decide +kernel
theorem dL_law_818 : decode cL_law 818 = .ok (.if_icmp .ne 277, 3) := by decide +kernel
theorem dL_law_821 : decode cL_law 821 = .ok (.aload_n 1, 1) := by decide +kernel
theorem dL_law_822 : decode cL_law 822 = .ok (.bipush 113, 2) := by decide +kernel
theorem dL_law_824 : decode cL_law 824 = .ok (.bipush 41, 2) := by decide +kernel
theorem dL_law_826 : decode cL_law 826 = .ok (.invokestatic 163, 3) := by decide +kernel
theorem dL_law_829 : decode cL_law 829 = .ok (.sipush (-1002), 3) := by decide +kernel
theorem dL_law_832 : decode cL_law 832 = .ok (.if_icmp .ne 263, 3) := by decide +kernel
theorem dL_law_835 : decode cL_law 835 = .ok (.aload_n 1, 1) := by decide +kernel
theorem dL_law_836 : decode cL_law 836 = .ok (.bipush 116, 2) := by decide +kernel
theorem dL_law_838 : decode cL_law 838 = .ok (.bipush 8, 2) := by decide +kernel
theorem dL_law_840 : decode cL_law 840 = .ok (.invokestatic 163, 3) := by decide +kernel
theorem dL_law_843 : decode cL_law 843 = .ok (.sipush (-1002), 3) := by decide +kernel
theorem dL_law_846 : decode cL_law 846 = .ok (.if_icmp .ne 249, 3) := by decide +kernel
theorem dL_law_849 : decode cL_law 849 = .ok (.aload_n 1, 1) := by decide +kernel
theorem dL_law_850 : decode cL_law 850 = .ok (.bipush 116, 2) := by decide +kernel
theorem dL_law_852 : decode cL_law 852 = .ok (.iconst (-1), 1) := by decide +kernel
theorem dL_law_853 : decode cL_law 853 = .ok (.invokestatic 163, 3) := by decide +kernel
theorem dL_law_856 : decode cL_law 856 = .ok (.sipush (-1002), 3) := by decide +kernel
theorem dL_law_859 : decode cL_law 859 = .ok (.if_icmp .ne 236, 3) := by decide +kernel
theorem dL_law_862 : decode cL_law 862 = .ok (.aload_n 1, 1) := by decide +kernel
theorem dL_law_863 : decode cL_law 863 = .ok (.bipush 115, 2) := by decide +kernel
theorem dL_law_865 : decode cL_law 865 = .ok (.iconst 0, 1) := by decide +kernel
theorem dL_law_866 : decode cL_law 866 = .ok (.invokestatic 163, 3) := by decide +kernel
theorem dL_law_869 : decode cL_law 869 = .ok (.sipush (-1002), 3) := by decide +kernel
theorem dL_law_872 : decode cL_law 872 = .ok (.if_icmp .ne 223, 3) := by decide +kernel
theorem dL_law_875 : decode cL_law 875 = .ok (.aload_n 1, 1) := by decide +kernel
theorem dL_law_876 : decode cL_law 876 = .ok (.bipush 115, 2) := by decide +kernel
theorem dL_law_878 : decode cL_law 878 = .ok (.iconst 3, 1) := by decide +kernel
theorem dL_law_879 : decode cL_law 879 = .ok (.invokestatic 163, 3) := by decide +kernel
theorem dL_law_882 : decode cL_law 882 = .ok (.sipush (-1002), 3) := by decide +kernel
theorem dL_law_885 : decode cL_law 885 = .ok (.if_icmp .ne 210, 3) := by decide +kernel
theorem dL_law_888 : decode cL_law 888 = .ok (.aload_n 1, 1) := by decide +kernel
theorem dL_law_889 : decode cL_law 889 = .ok (.iconst (-1), 1) := by decide +kernel
theorem dL_law_890 : decode cL_law 890 = .ok (.iconst 0, 1) := by decide +kernel
theorem dL_law_891 : decode cL_law 891 = .ok (.invokestatic 195, 3) := by decide +kernel
theorem dL_law_894 : decode cL_law 894 = .ok (.sipush (-1002), 3) := by decide +kernel
theorem dL_law_897 : decode cL_law 897 = .ok (.if_icmp .ne 198, 3) := by decide +kernel
theorem dL_law_900 : decode cL_law 900 = .ok (.aload_n 1, 1) := by decide +kernel
theorem dL_law_901 : decode cL_law 901 = .ok (.ldc 198, 2) := by decide +kernel
theorem dL_law_903 : decode cL_law 903 = .ok (.iconst 0, 1) := by decide +kernel
theorem dL_law_904 : decode cL_law 904 = .ok (.invokestatic 195, 3) := by decide +kernel
theorem dL_law_907 : decode cL_law 907 = .ok (.sipush (-1002), 3) := by decide +kernel
theorem dL_law_910 : decode cL_law 910 = .ok (.if_icmp .ne 185, 3) := by decide +kernel
theorem dL_law_913 : decode cL_law 913 = .ok (.aload_n 1, 1) := by decide +kernel
theorem dL_law_914 : decode cL_law 914 = .ok (.iconst 1, 1) := by decide +kernel
theorem dL_law_915 : decode cL_law 915 = .ok (.iconst (-1), 1) := by decide +kernel
theorem dL_law_916 : decode cL_law 916 = .ok (.invokestatic 195, 3) := by decide +kernel
theorem dL_law_919 : decode cL_law 919 = .ok (.sipush (-1002), 3) := by decide +kernel
theorem dL_law_922 : decode cL_law 922 = .ok (.if_icmp .ne 173, 3) := by decide +kernel
theorem dL_law_925 : decode cL_law 925 = .ok (.aload_n 1, 1) := by decide +kernel
theorem dL_law_926 : decode cL_law 926 = .ok (.bipush 63, 2) := by decide +kernel
theorem dL_law_928 : decode cL_law 928 = .ok (.iconst 0, 1) := by decide +kernel
theorem dL_law_929 : decode cL_law 929 = .ok (.iconst 0, 1) := by decide +kernel
theorem dL_law_930 : decode cL_law 930 = .ok (.invokestatic 167, 3) := by decide +kernel
theorem dL_law_933 : decode cL_law 933 = .ok (.sipush (-1002), 3) := by decide +kernel
theorem dL_law_936 : decode cL_law 936 = .ok (.if_icmp .ne 159, 3) := by decide +kernel
theorem dL_law_939 : decode cL_law 939 = .ok (.aload_n 1, 1) := by decide +kernel
theorem dL_law_940 : decode cL_law 940 = .ok (.bipush 112, 2) := by decide +kernel
theorem dL_law_942 : decode cL_law 942 = .ok (.iconst 3, 1) := by decide +kernel
theorem dL_law_943 : decode cL_law 943 = .ok (.iconst 0, 1) := by decide +kernel
theorem dL_law_944 : decode cL_law 944 = .ok (.invokestatic 167, 3) := by decide +kernel
theorem dL_law_947 : decode cL_law 947 = .ok (.sipush (-1001), 3) := by decide +kernel
theorem dL_law_950 : decode cL_law 950 = .ok (.if_icmp .ne 145, 3) := by decide +kernel
theorem dL_law_953 : decode cL_law 953 = .ok (.aload_n 1, 1) := by decide +kernel
theorem dL_law_954 : decode cL_law 954 = .ok (.bipush 98, 2) := by decide +kernel
theorem dL_law_956 : decode cL_law 956 = .ok (.iconst 0, 1) := by decide +kernel
theorem dL_law_957 : decode cL_law 957 = .ok (.iconst (-1), 1) := by decide +kernel
theorem dL_law_958 : decode cL_law 958 = .ok (.invokestatic 167, 3) := by decide +kernel
theorem dL_law_961 : decode cL_law 961 = .ok (.sipush (-1001), 3) := by decide +kernel
theorem dL_law_964 : decode cL_law 964 = .ok (.if_icmp .ne 131, 3) := by decide +kernel
theorem dL_law_967 : decode cL_law 967 = .ok (.aload_n 1, 1) := by decide +kernel
theorem dL_law_968 : decode cL_law 968 = .ok (.bipush 105, 2) := by decide +kernel
theorem dL_law_970 : decode cL_law 970 = .ok (.iload 4, 2) := by decide +kernel
theorem dL_law_972 : decode cL_law 972 = .ok (.invokestatic 163, 3) := by decide +kernel
theorem dL_law_975 : decode cL_law 975 = .ok (.sipush (-1001), 3) := by decide +kernel
theorem dL_law_978 : decode cL_law 978 = .ok (.if_icmp .ne 117, 3) := by decide +kernel
theorem dL_law_981 : decode cL_law 981 = .ok (.aload_n 1, 1) := by decide +kernel
theorem dL_law_982 : decode cL_law 982 = .ok (.bipush 99, 2) := by decide +kernel
theorem dL_law_984 : decode cL_law 984 = .ok (.iconst (-1), 1) := by decide +kernel
theorem dL_law_985 : decode cL_law 985 = .ok (.invokestatic 163, 3) := by decide +kernel
theorem dL_law_988 : decode cL_law 988 = .ok (.sipush (-1001), 3) := by decide +kernel
theorem dL_law_991 : decode cL_law 991 = .ok (.if_icmp .ne 104, 3) := by decide +kernel
theorem dL_law_994 : decode cL_law 994 = .ok (.aload_n 1, 1) := by decide +kernel
theorem dL_law_995 : decode cL_law 995 = .ok (.bipush 104, 2) := by decide +kernel
theorem dL_law_997 : decode cL_law 997 = .ok (.iload 4, 2) := by decide +kernel
theorem dL_law_999 : decode cL_law 999 = .ok (.invokestatic 163, 3) := by decide +kernel
theorem dL_law_1002 : decode cL_law 1002 = .ok (.sipush (-1001), 3) := by decide +kernel
theorem dL_law_1005 : decode cL_law 1005 = .ok (.if_icmp .ne 90, 3) := by decide +kernel
theorem dL_law_1008 : decode cL_law 1008 = .ok (.aload_n 1, 1) := by decide +kernel
theorem dL_law_1009 : decode cL_law 1009 = .ok (.bipush 106, 2) := by decide +kernel
theorem dL_law_1011 : decode cL_law 1011 = .ok (.iload 4, 2) := by decide +kernel
theorem dL_law_1013 : decode cL_law 1013 = .ok (.iconst 1, 1) := by decide +kernel
theorem dL_law_1014 : decode cL_law 1014 = .ok (.iadd, 1) := by decide +kernel
theorem dL_law_1015 : decode cL_law 1015 = .ok (.invokestatic 163, 3) := by decide +kernel
theorem dL_law_1018 : decode cL_law 1018 = .ok (.sipush (-1001), 3) := by decide +kernel
theorem dL_law_1021 : decode cL_law 1021 = .ok (.if_icmp .ne 74, 3) := by decide +kernel
theorem dL_law_1024 : decode cL_law 1024 = .ok (.aload_n 1, 1) := by decide +kernel
theorem dL_law_1025 : decode cL_law 1025 = .ok (.bipush 106, 2) := by decide +kernel
theorem dL_law_1027 : decode cL_law 1027 = .ok (.iconst (-1), 1) := by decide +kernel
theorem dL_law_1028 : decode cL_law 1028 = .ok (.invokestatic 163, 3) := by decide +kernel
theorem dL_law_1031 : decode cL_law 1031 = .ok (.sipush (-1001), 3) := by decide +kernel
theorem dL_law_1034 : decode cL_law 1034 = .ok (.if_icmp .ne 61, 3) := by decide +kernel
theorem dL_law_1037 : decode cL_law 1037 = .ok (.aload_n 1, 1) := by decide +kernel
theorem dL_law_1038 : decode cL_law 1038 = .ok (.bipush 99, 2) := by decide +kernel
theorem dL_law_1040 : decode cL_law 1040 = .ok (.iconst 0, 1) := by decide +kernel
theorem dL_law_1041 : decode cL_law 1041 = .ok (.bipush 16, 2) := by decide +kernel
theorem dL_law_1043 : decode cL_law 1043 = .ok (.iconst 0, 1) := by decide +kernel
theorem dL_law_1044 : decode cL_law 1044 = .ok (.invokestatic 137, 3) := by decide +kernel
theorem dL_law_1047 : decode cL_law 1047 = .ok (.ldc 96, 2) := by decide +kernel
theorem dL_law_1049 : decode cL_law 1049 = .ok (.if_icmp .ne 46, 3) := by decide +kernel
theorem dL_law_1052 : decode cL_law 1052 = .ok (.aload_n 1, 1) := by decide +kernel
theorem dL_law_1053 : decode cL_law 1053 = .ok (.bipush 119, 2) := by decide +kernel
theorem dL_law_1055 : decode cL_law 1055 = .ok (.iconst 0, 1) := by decide +kernel
theorem dL_law_1056 : decode cL_law 1056 = .ok (.iconst 0, 1) := by decide +kernel
theorem dL_law_1057 : decode cL_law 1057 = .ok (.iconst (-1), 1) := by decide +kernel
theorem dL_law_1058 : decode cL_law 1058 = .ok (.invokestatic 137, 3) := by decide +kernel
theorem dL_law_1061 : decode cL_law 1061 = .ok (.ldc 96, 2) := by decide +kernel
theorem dL_law_1063 : decode cL_law 1063 = .ok (.if_icmp .ne 32, 3) := by decide +kernel
theorem dL_law_1066 : decode cL_law 1066 = .ok (.aload_n 1, 1) := by decide +kernel
theorem dL_law_1067 : decode cL_law 1067 = .ok (.bipush 98, 2) := by decide +kernel
theorem dL_law_1069 : decode cL_law 1069 = .ok (.iload 4, 2) := by decide +kernel
theorem dL_law_1071 : decode cL_law 1071 = .ok (.iconst 0, 1) := by decide +kernel
theorem dL_law_1072 : decode cL_law 1072 = .ok (.iconst 0, 1) := by decide +kernel
theorem dL_law_1073 : decode cL_law 1073 = .ok (.invokestatic 137, 3) := by decide +kernel
theorem dL_law_1076 : decode cL_law 1076 = .ok (.ldc 96, 2) := by decide +kernel
theorem dL_law_1078 : decode cL_law 1078 = .ok (.if_icmp .ne 17, 3) := by decide +kernel
theorem dL_law_1081 : decode cL_law 1081 = .ok (.aload_n 1, 1) := by decide +kernel
theorem dL_law_1082 : decode cL_law 1082 = .ok (.bipush 109, 2) := by decide +kernel
theorem dL_law_1084 : decode cL_law 1084 = .ok (.iconst (-1), 1) := by decide +kernel
theorem dL_law_1085 : decode cL_law 1085 = .ok (.iconst 0, 1) := by decide +kernel
theorem dL_law_1086 : decode cL_law 1086 = .ok (.iconst 0, 1) := by decide +kernel
theorem dL_law_1087 : decode cL_law 1087 = .ok (.invokestatic 137, 3) := by decide +kernel
theorem dL_law_1090 : decode cL_law 1090 = .ok (.ldc 96, 2) := by decide +kernel
theorem dL_law_1092 : decode cL_law 1092 = .ok (.if_icmp .eq 5, 3) := by decide +kernel
theorem dL_law_1095 : decode cL_law 1095 = .ok (.iconst 0, 1) := by decide +kernel
theorem dL_law_1096 : decode cL_law 1096 = .ok (.ireturn, 1) := by decide +kernel
theorem dL_law_1097 : decode cL_law 1097 = .ok (.aload_n 0, 1) := by decide +kernel
theorem dL_law_1098 : decode cL_law 1098 = .ok (.bipush 42, 2) := by decide +kernel
theorem dL_law_1100 : decode cL_law 1100 = .ok (.invokestatic 177, 3) := by decide +kernel
theorem dL_law_1103 : decode cL_law 1103 = .ok (.ldc 199, 2) := by decide +kernel
theorem dL_law_1105 : decode cL_law 1105 = .ok (.invokestatic 181, 3) := by decide +kernel
theorem dL_law_1108 : decode cL_law 1108 = .ok (.istore 8, 2) := by decide +kernel
theorem dL_law_1110 : decode cL_law 1110 = .ok (.aload_n 1, 1) := by decide +kernel
theorem dL_law_1111 : decode cL_law 1111 = .ok (.invokevirtual 189, 3) := by decide +kernel
theorem dL_law_1114 : decode cL_law 1114 = .ok (.iload 4, 2) := by decide +kernel
theorem dL_law_1116 : decode cL_law 1116 = .ok (.if_icmp .ne 39, 3) := by decide +kernel
theorem dL_law_1119 : decode cL_law 1119 = .ok (.iload 8, 2) := by decide +kernel
theorem dL_law_1121 : decode cL_law 1121 = .ok (.sipush 256, 3) := by decide +kernel
theorem dL_law_1124 : decode cL_law 1124 = .ok (.irem, 1) := by decide +kernel
theorem dL_law_1125 : decode cL_law 1125 = .ok (.iconst 1, 1) := by decide +kernel
theorem dL_law_1126 : decode cL_law 1126 = .ok (.iload 8, 2) := by decide +kernel
theorem dL_law_1128 : decode cL_law 1128 = .ok (.sipush 256, 3) := by decide +kernel
theorem dL_law_1131 : decode cL_law 1131 = .ok (.idiv, 1) := by decide +kernel
theorem dL_law_1132 : decode cL_law 1132 = .ok (.bipush 40, 2) := by decide +kernel
theorem dL_law_1134 : decode cL_law 1134 = .ok (.irem, 1) := by decide +kernel
theorem dL_law_1135 : decode cL_law 1135 = .ok (.iadd, 1) := by decide +kernel
theorem dL_law_1136 : decode cL_law 1136 = .ok (.iload 8, 2) := by decide +kernel
theorem dL_law_1138 : decode cL_law 1138 = .ok (.sipush 10240, 3) := by decide +kernel
theorem dL_law_1141 : decode cL_law 1141 = .ok (.idiv, 1) := by decide +kernel
theorem dL_law_1142 : decode cL_law 1142 = .ok (.bipush 8, 2) := by decide +kernel
theorem dL_law_1144 : decode cL_law 1144 = .ok (.irem, 1) := by decide +kernel
theorem dL_law_1145 : decode cL_law 1145 = .ok (.invokestatic 200, 3) := by decide +kernel
theorem dL_law_1148 : decode cL_law 1148 = .ok (.ifCond .eq 7, 3) := by decide +kernel
theorem dL_law_1151 : decode cL_law 1151 = .ok (.iconst 1, 1) := by decide +kernel
theorem dL_law_1152 : decode cL_law 1152 = .ok (.goto 4, 3) := by decide +kernel
theorem dL_law_1155 : decode cL_law 1155 = .ok (.iconst 0, 1) := by decide +kernel
theorem dL_law_1156 : decode cL_law 1156 = .ok (.ireturn, 1) := by decide +kernel
