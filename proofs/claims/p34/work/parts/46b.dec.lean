/-! the law, decoded -/
theorem ld_805 : decode code 805 = .ok (.iconst 1, 1) := by decide +kernel
theorem ld_806 : decode code 806 = .ok (.iadd, 1) := by decide +kernel
theorem ld_807 : decode code 807 = .ok (.iaload, 1) := by decide +kernel
theorem ld_808 : decode code 808 = .ok (.invokevirtual 109, 3) := by decide +kernel
theorem ld_811 : decode code 811 = .ok (.pop, 1) := by decide +kernel
theorem ld_812 : decode code 812 = .ok (.aload_n 2, 1) := by decide +kernel
theorem ld_813 : decode code 813 = .ok (.aload_n 0, 1) := by decide +kernel
theorem ld_814 : decode code 814 = .ok (.iload_n 3, 1) := by decide +kernel
theorem ld_815 : decode code 815 = .ok (.iconst 1, 1) := by decide +kernel
theorem ld_816 : decode code 816 = .ok (.iadd, 1) := by decide +kernel
theorem ld_817 : decode code 817 = .ok (.iaload, 1) := by decide +kernel
theorem ld_818 : decode code 818 = .ok (.invokevirtual 112, 3) := by decide +kernel
theorem ld_821 : decode code 821 = .ok (.pop, 1) := by decide +kernel
theorem ld_822 : decode code 822 = .ok (.goto (595), 3) := by decide +kernel
theorem ld_825 : decode code 825 = .ok (.aload_n 1, 1) := by decide +kernel
theorem ld_826 : decode code 826 = .ok (.aload_n 0, 1) := by decide +kernel
theorem ld_827 : decode code 827 = .ok (.iload_n 3, 1) := by decide +kernel
theorem ld_828 : decode code 828 = .ok (.iconst 1, 1) := by decide +kernel
theorem ld_829 : decode code 829 = .ok (.iadd, 1) := by decide +kernel
theorem ld_830 : decode code 830 = .ok (.iaload, 1) := by decide +kernel
theorem ld_831 : decode code 831 = .ok (.invokevirtual 113, 3) := by decide +kernel
theorem ld_834 : decode code 834 = .ok (.pop, 1) := by decide +kernel
theorem ld_835 : decode code 835 = .ok (.aload_n 2, 1) := by decide +kernel
theorem ld_836 : decode code 836 = .ok (.aload_n 0, 1) := by decide +kernel
theorem ld_837 : decode code 837 = .ok (.iload_n 3, 1) := by decide +kernel
theorem ld_838 : decode code 838 = .ok (.iconst 1, 1) := by decide +kernel
theorem ld_839 : decode code 839 = .ok (.iadd, 1) := by decide +kernel
theorem ld_840 : decode code 840 = .ok (.iaload, 1) := by decide +kernel
theorem ld_841 : decode code 841 = .ok (.invokevirtual 116, 3) := by decide +kernel
theorem ld_844 : decode code 844 = .ok (.pop, 1) := by decide +kernel
theorem ld_845 : decode code 845 = .ok (.goto (572), 3) := by decide +kernel
theorem ld_848 : decode code 848 = .ok (.aload_n 1, 1) := by decide +kernel
theorem ld_849 : decode code 849 = .ok (.aload_n 0, 1) := by decide +kernel
theorem ld_850 : decode code 850 = .ok (.iload_n 3, 1) := by decide +kernel
theorem ld_851 : decode code 851 = .ok (.iconst 1, 1) := by decide +kernel
theorem ld_852 : decode code 852 = .ok (.iadd, 1) := by decide +kernel
theorem ld_853 : decode code 853 = .ok (.iaload, 1) := by decide +kernel
theorem ld_854 : decode code 854 = .ok (.invokevirtual 117, 3) := by decide +kernel
theorem ld_857 : decode code 857 = .ok (.pop, 1) := by decide +kernel
theorem ld_858 : decode code 858 = .ok (.aload_n 2, 1) := by decide +kernel
theorem ld_859 : decode code 859 = .ok (.aload_n 0, 1) := by decide +kernel
theorem ld_860 : decode code 860 = .ok (.iload_n 3, 1) := by decide +kernel
theorem ld_861 : decode code 861 = .ok (.iconst 1, 1) := by decide +kernel
theorem ld_862 : decode code 862 = .ok (.iadd, 1) := by decide +kernel
theorem ld_863 : decode code 863 = .ok (.iaload, 1) := by decide +kernel
theorem ld_864 : decode code 864 = .ok (.invokevirtual 120, 3) := by decide +kernel
theorem ld_867 : decode code 867 = .ok (.pop, 1) := by decide +kernel
theorem ld_868 : decode code 868 = .ok (.goto (549), 3) := by decide +kernel
theorem ld_871 : decode code 871 = .ok (.aload_n 1, 1) := by decide +kernel
theorem ld_872 : decode code 872 = .ok (.invokevirtual 121, 3) := by decide +kernel
theorem ld_875 : decode code 875 = .ok (.pop, 1) := by decide +kernel
theorem ld_876 : decode code 876 = .ok (.aload_n 2, 1) := by decide +kernel
theorem ld_877 : decode code 877 = .ok (.invokevirtual 124, 3) := by decide +kernel
theorem ld_880 : decode code 880 = .ok (.pop, 1) := by decide +kernel
theorem ld_881 : decode code 881 = .ok (.goto (536), 3) := by decide +kernel
theorem ld_884 : decode code 884 = .ok (.aload_n 1, 1) := by decide +kernel
theorem ld_885 : decode code 885 = .ok (.aload_n 0, 1) := by decide +kernel
theorem ld_886 : decode code 886 = .ok (.iload_n 3, 1) := by decide +kernel
theorem ld_887 : decode code 887 = .ok (.iconst 1, 1) := by decide +kernel
theorem ld_888 : decode code 888 = .ok (.iadd, 1) := by decide +kernel
theorem ld_889 : decode code 889 = .ok (.iaload, 1) := by decide +kernel
theorem ld_890 : decode code 890 = .ok (.invokevirtual 125, 3) := by decide +kernel
theorem ld_893 : decode code 893 = .ok (.pop, 1) := by decide +kernel
theorem ld_894 : decode code 894 = .ok (.aload_n 2, 1) := by decide +kernel
theorem ld_895 : decode code 895 = .ok (.aload_n 0, 1) := by decide +kernel
theorem ld_896 : decode code 896 = .ok (.iload_n 3, 1) := by decide +kernel
theorem ld_897 : decode code 897 = .ok (.iconst 1, 1) := by decide +kernel
theorem ld_898 : decode code 898 = .ok (.iadd, 1) := by decide +kernel
theorem ld_899 : decode code 899 = .ok (.iaload, 1) := by decide +kernel
theorem ld_900 : decode code 900 = .ok (.invokevirtual 128, 3) := by decide +kernel
theorem ld_903 : decode code 903 = .ok (.pop, 1) := by decide +kernel
theorem ld_904 : decode code 904 = .ok (.goto (513), 3) := by decide +kernel
theorem ld_907 : decode code 907 = .ok (.aload_n 1, 1) := by decide +kernel
theorem ld_908 : decode code 908 = .ok (.aload_n 0, 1) := by decide +kernel
theorem ld_909 : decode code 909 = .ok (.iload_n 3, 1) := by decide +kernel
theorem ld_910 : decode code 910 = .ok (.iconst 1, 1) := by decide +kernel
theorem ld_911 : decode code 911 = .ok (.iadd, 1) := by decide +kernel
theorem ld_912 : decode code 912 = .ok (.iaload, 1) := by decide +kernel
theorem ld_913 : decode code 913 = .ok (.aload_n 0, 1) := by decide +kernel
theorem ld_914 : decode code 914 = .ok (.iload_n 3, 1) := by decide +kernel
theorem ld_915 : decode code 915 = .ok (.iconst 2, 1) := by decide +kernel
theorem ld_916 : decode code 916 = .ok (.iadd, 1) := by decide +kernel
theorem ld_917 : decode code 917 = .ok (.iaload, 1) := by decide +kernel
theorem ld_918 : decode code 918 = .ok (.ifCond .eq (7), 3) := by decide +kernel
theorem ld_921 : decode code 921 = .ok (.iconst 1, 1) := by decide +kernel
theorem ld_922 : decode code 922 = .ok (.goto (4), 3) := by decide +kernel
theorem ld_925 : decode code 925 = .ok (.iconst 0, 1) := by decide +kernel
theorem ld_926 : decode code 926 = .ok (.invokevirtual 129, 3) := by decide +kernel
theorem ld_929 : decode code 929 = .ok (.pop, 1) := by decide +kernel
theorem ld_930 : decode code 930 = .ok (.aload_n 2, 1) := by decide +kernel
theorem ld_931 : decode code 931 = .ok (.aload_n 0, 1) := by decide +kernel
theorem ld_932 : decode code 932 = .ok (.iload_n 3, 1) := by decide +kernel
theorem ld_933 : decode code 933 = .ok (.iconst 1, 1) := by decide +kernel
theorem ld_934 : decode code 934 = .ok (.iadd, 1) := by decide +kernel
theorem ld_935 : decode code 935 = .ok (.iaload, 1) := by decide +kernel
theorem ld_936 : decode code 936 = .ok (.aload_n 0, 1) := by decide +kernel
theorem ld_937 : decode code 937 = .ok (.iload_n 3, 1) := by decide +kernel
theorem ld_938 : decode code 938 = .ok (.iconst 2, 1) := by decide +kernel
theorem ld_939 : decode code 939 = .ok (.iadd, 1) := by decide +kernel
theorem ld_940 : decode code 940 = .ok (.iaload, 1) := by decide +kernel
theorem ld_941 : decode code 941 = .ok (.ifCond .eq (7), 3) := by decide +kernel
theorem ld_944 : decode code 944 = .ok (.iconst 1, 1) := by decide +kernel
theorem ld_945 : decode code 945 = .ok (.goto (4), 3) := by decide +kernel
theorem ld_948 : decode code 948 = .ok (.iconst 0, 1) := by decide +kernel
theorem ld_949 : decode code 949 = .ok (.invokevirtual 132, 3) := by decide +kernel
theorem ld_952 : decode code 952 = .ok (.pop, 1) := by decide +kernel
theorem ld_953 : decode code 953 = .ok (.goto (464), 3) := by decide +kernel
theorem ld_956 : decode code 956 = .ok (.aload_n 1, 1) := by decide +kernel
theorem ld_957 : decode code 957 = .ok (.aload_n 0, 1) := by decide +kernel
theorem ld_958 : decode code 958 = .ok (.iload_n 3, 1) := by decide +kernel
theorem ld_959 : decode code 959 = .ok (.iconst 1, 1) := by decide +kernel
theorem ld_960 : decode code 960 = .ok (.iadd, 1) := by decide +kernel
theorem ld_961 : decode code 961 = .ok (.iaload, 1) := by decide +kernel
theorem ld_962 : decode code 962 = .ok (.ifCond .eq (7), 3) := by decide +kernel
theorem ld_965 : decode code 965 = .ok (.iconst 1, 1) := by decide +kernel
theorem ld_966 : decode code 966 = .ok (.goto (4), 3) := by decide +kernel
theorem ld_969 : decode code 969 = .ok (.iconst 0, 1) := by decide +kernel
theorem ld_970 : decode code 970 = .ok (.invokevirtual 133, 3) := by decide +kernel
theorem ld_973 : decode code 973 = .ok (.pop2, 1) := by decide +kernel
theorem ld_974 : decode code 974 = .ok (.aload_n 2, 1) := by decide +kernel
theorem ld_975 : decode code 975 = .ok (.aload_n 0, 1) := by decide +kernel
theorem ld_976 : decode code 976 = .ok (.iload_n 3, 1) := by decide +kernel
theorem ld_977 : decode code 977 = .ok (.iconst 1, 1) := by decide +kernel
theorem ld_978 : decode code 978 = .ok (.iadd, 1) := by decide +kernel
theorem ld_979 : decode code 979 = .ok (.iaload, 1) := by decide +kernel
theorem ld_980 : decode code 980 = .ok (.ifCond .eq (7), 3) := by decide +kernel
theorem ld_983 : decode code 983 = .ok (.iconst 1, 1) := by decide +kernel
theorem ld_984 : decode code 984 = .ok (.goto (4), 3) := by decide +kernel
theorem ld_987 : decode code 987 = .ok (.iconst 0, 1) := by decide +kernel
theorem ld_988 : decode code 988 = .ok (.invokevirtual 137, 3) := by decide +kernel
theorem ld_991 : decode code 991 = .ok (.pop2, 1) := by decide +kernel
theorem ld_992 : decode code 992 = .ok (.goto (425), 3) := by decide +kernel
theorem ld_995 : decode code 995 = .ok (.aload_n 1, 1) := by decide +kernel
theorem ld_996 : decode code 996 = .ok (.aload_n 0, 1) := by decide +kernel
theorem ld_997 : decode code 997 = .ok (.iload_n 3, 1) := by decide +kernel
theorem ld_998 : decode code 998 = .ok (.iconst 1, 1) := by decide +kernel
theorem ld_999 : decode code 999 = .ok (.iadd, 1) := by decide +kernel
theorem ld_1000 : decode code 1000 = .ok (.iaload, 1) := by decide +kernel
theorem ld_1001 : decode code 1001 = .ok (.invokevirtual 138, 3) := by decide +kernel
theorem ld_1004 : decode code 1004 = .ok (.pop, 1) := by decide +kernel
theorem ld_1005 : decode code 1005 = .ok (.aload_n 2, 1) := by decide +kernel
theorem ld_1006 : decode code 1006 = .ok (.aload_n 0, 1) := by decide +kernel
theorem ld_1007 : decode code 1007 = .ok (.iload_n 3, 1) := by decide +kernel
theorem ld_1008 : decode code 1008 = .ok (.iconst 1, 1) := by decide +kernel
theorem ld_1009 : decode code 1009 = .ok (.iadd, 1) := by decide +kernel
theorem ld_1010 : decode code 1010 = .ok (.iaload, 1) := by decide +kernel
theorem ld_1011 : decode code 1011 = .ok (.invokevirtual 141, 3) := by decide +kernel
theorem ld_1014 : decode code 1014 = .ok (.pop, 1) := by decide +kernel
theorem ld_1015 : decode code 1015 = .ok (.goto (402), 3) := by decide +kernel
theorem ld_1018 : decode code 1018 = .ok (.aload_n 1, 1) := by decide +kernel
theorem ld_1019 : decode code 1019 = .ok (.invokevirtual 142, 3) := by decide +kernel
theorem ld_1022 : decode code 1022 = .ok (.pop, 1) := by decide +kernel
theorem ld_1023 : decode code 1023 = .ok (.aload_n 2, 1) := by decide +kernel
theorem ld_1024 : decode code 1024 = .ok (.invokevirtual 145, 3) := by decide +kernel
theorem ld_1027 : decode code 1027 = .ok (.pop, 1) := by decide +kernel
theorem ld_1028 : decode code 1028 = .ok (.goto (389), 3) := by decide +kernel
theorem ld_1031 : decode code 1031 = .ok (.aload_n 1, 1) := by decide +kernel
theorem ld_1032 : decode code 1032 = .ok (.aload_n 0, 1) := by decide +kernel
theorem ld_1033 : decode code 1033 = .ok (.iload_n 3, 1) := by decide +kernel
theorem ld_1034 : decode code 1034 = .ok (.iconst 1, 1) := by decide +kernel
theorem ld_1035 : decode code 1035 = .ok (.iadd, 1) := by decide +kernel
theorem ld_1036 : decode code 1036 = .ok (.iaload, 1) := by decide +kernel
theorem ld_1037 : decode code 1037 = .ok (.aload_n 0, 1) := by decide +kernel
theorem ld_1038 : decode code 1038 = .ok (.iload_n 3, 1) := by decide +kernel
theorem ld_1039 : decode code 1039 = .ok (.iconst 2, 1) := by decide +kernel
theorem ld_1040 : decode code 1040 = .ok (.iadd, 1) := by decide +kernel
theorem ld_1041 : decode code 1041 = .ok (.iaload, 1) := by decide +kernel
theorem ld_1042 : decode code 1042 = .ok (.i2l, 1) := by decide +kernel
theorem ld_1043 : decode code 1043 = .ok (.bipush 32, 2) := by decide +kernel
theorem ld_1045 : decode code 1045 = .ok (.lshl, 1) := by decide +kernel
theorem ld_1046 : decode code 1046 = .ok (.aload_n 0, 1) := by decide +kernel
theorem ld_1047 : decode code 1047 = .ok (.iload_n 3, 1) := by decide +kernel
theorem ld_1048 : decode code 1048 = .ok (.iconst 3, 1) := by decide +kernel
theorem ld_1049 : decode code 1049 = .ok (.iadd, 1) := by decide +kernel
theorem ld_1050 : decode code 1050 = .ok (.iaload, 1) := by decide +kernel
theorem ld_1051 : decode code 1051 = .ok (.i2l, 1) := by decide +kernel
theorem ld_1052 : decode code 1052 = .ok (.ldc2_w 146, 3) := by decide +kernel
theorem ld_1055 : decode code 1055 = .ok (.land, 1) := by decide +kernel
theorem ld_1056 : decode code 1056 = .ok (.lor, 1) := by decide +kernel
theorem ld_1057 : decode code 1057 = .ok (.invokevirtual 148, 3) := by decide +kernel
theorem ld_1060 : decode code 1060 = .ok (.pop, 1) := by decide +kernel
theorem ld_1061 : decode code 1061 = .ok (.aload_n 2, 1) := by decide +kernel
theorem ld_1062 : decode code 1062 = .ok (.aload_n 0, 1) := by decide +kernel
theorem ld_1063 : decode code 1063 = .ok (.iload_n 3, 1) := by decide +kernel
theorem ld_1064 : decode code 1064 = .ok (.iconst 1, 1) := by decide +kernel
theorem ld_1065 : decode code 1065 = .ok (.iadd, 1) := by decide +kernel
theorem ld_1066 : decode code 1066 = .ok (.iaload, 1) := by decide +kernel
theorem ld_1067 : decode code 1067 = .ok (.aload_n 0, 1) := by decide +kernel
theorem ld_1068 : decode code 1068 = .ok (.iload_n 3, 1) := by decide +kernel
theorem ld_1069 : decode code 1069 = .ok (.iconst 2, 1) := by decide +kernel
theorem ld_1070 : decode code 1070 = .ok (.iadd, 1) := by decide +kernel
theorem ld_1071 : decode code 1071 = .ok (.iaload, 1) := by decide +kernel
theorem ld_1072 : decode code 1072 = .ok (.i2l, 1) := by decide +kernel
theorem ld_1073 : decode code 1073 = .ok (.bipush 32, 2) := by decide +kernel
theorem ld_1075 : decode code 1075 = .ok (.lshl, 1) := by decide +kernel
theorem ld_1076 : decode code 1076 = .ok (.aload_n 0, 1) := by decide +kernel
theorem ld_1077 : decode code 1077 = .ok (.iload_n 3, 1) := by decide +kernel
theorem ld_1078 : decode code 1078 = .ok (.iconst 3, 1) := by decide +kernel
theorem ld_1079 : decode code 1079 = .ok (.iadd, 1) := by decide +kernel
theorem ld_1080 : decode code 1080 = .ok (.iaload, 1) := by decide +kernel
theorem ld_1081 : decode code 1081 = .ok (.i2l, 1) := by decide +kernel
theorem ld_1082 : decode code 1082 = .ok (.ldc2_w 146, 3) := by decide +kernel
theorem ld_1085 : decode code 1085 = .ok (.land, 1) := by decide +kernel
theorem ld_1086 : decode code 1086 = .ok (.lor, 1) := by decide +kernel
theorem ld_1087 : decode code 1087 = .ok (.invokevirtual 152, 3) := by decide +kernel
theorem ld_1090 : decode code 1090 = .ok (.pop, 1) := by decide +kernel
theorem ld_1091 : decode code 1091 = .ok (.goto (326), 3) := by decide +kernel
theorem ld_1094 : decode code 1094 = .ok (.aload_n 1, 1) := by decide +kernel
theorem ld_1095 : decode code 1095 = .ok (.aload_n 0, 1) := by decide +kernel
theorem ld_1096 : decode code 1096 = .ok (.iload_n 3, 1) := by decide +kernel
theorem ld_1097 : decode code 1097 = .ok (.iconst 1, 1) := by decide +kernel
theorem ld_1098 : decode code 1098 = .ok (.iadd, 1) := by decide +kernel
theorem ld_1099 : decode code 1099 = .ok (.iaload, 1) := by decide +kernel
theorem ld_1100 : decode code 1100 = .ok (.aload_n 0, 1) := by decide +kernel
theorem ld_1101 : decode code 1101 = .ok (.iload_n 3, 1) := by decide +kernel
theorem ld_1102 : decode code 1102 = .ok (.iconst 2, 1) := by decide +kernel
theorem ld_1103 : decode code 1103 = .ok (.iadd, 1) := by decide +kernel
theorem ld_1104 : decode code 1104 = .ok (.iaload, 1) := by decide +kernel
theorem ld_1105 : decode code 1105 = .ok (.invokevirtual 153, 3) := by decide +kernel
theorem ld_1108 : decode code 1108 = .ok (.aload_n 2, 1) := by decide +kernel
theorem ld_1109 : decode code 1109 = .ok (.aload_n 0, 1) := by decide +kernel
theorem ld_1110 : decode code 1110 = .ok (.iload_n 3, 1) := by decide +kernel
theorem ld_1111 : decode code 1111 = .ok (.iconst 1, 1) := by decide +kernel
theorem ld_1112 : decode code 1112 = .ok (.iadd, 1) := by decide +kernel
theorem ld_1113 : decode code 1113 = .ok (.iaload, 1) := by decide +kernel
theorem ld_1114 : decode code 1114 = .ok (.aload_n 0, 1) := by decide +kernel
theorem ld_1115 : decode code 1115 = .ok (.iload_n 3, 1) := by decide +kernel
theorem ld_1116 : decode code 1116 = .ok (.iconst 2, 1) := by decide +kernel
theorem ld_1117 : decode code 1117 = .ok (.iadd, 1) := by decide +kernel
theorem ld_1118 : decode code 1118 = .ok (.iaload, 1) := by decide +kernel
theorem ld_1119 : decode code 1119 = .ok (.invokevirtual 156, 3) := by decide +kernel
theorem ld_1122 : decode code 1122 = .ok (.if_icmp .eq (295), 3) := by decide +kernel
theorem ld_1125 : decode code 1125 = .ok (.iconst 0, 1) := by decide +kernel
theorem ld_1126 : decode code 1126 = .ok (.ireturn, 1) := by decide +kernel
theorem ld_1127 : decode code 1127 = .ok (.aload_n 1, 1) := by decide +kernel
theorem ld_1128 : decode code 1128 = .ok (.aload_n 0, 1) := by decide +kernel
theorem ld_1129 : decode code 1129 = .ok (.iload_n 3, 1) := by decide +kernel
theorem ld_1130 : decode code 1130 = .ok (.iconst 1, 1) := by decide +kernel
theorem ld_1131 : decode code 1131 = .ok (.iadd, 1) := by decide +kernel
theorem ld_1132 : decode code 1132 = .ok (.iaload, 1) := by decide +kernel
theorem ld_1133 : decode code 1133 = .ok (.aload_n 0, 1) := by decide +kernel
theorem ld_1134 : decode code 1134 = .ok (.iload_n 3, 1) := by decide +kernel
theorem ld_1135 : decode code 1135 = .ok (.iconst 2, 1) := by decide +kernel
theorem ld_1136 : decode code 1136 = .ok (.iadd, 1) := by decide +kernel
theorem ld_1137 : decode code 1137 = .ok (.iaload, 1) := by decide +kernel
theorem ld_1138 : decode code 1138 = .ok (.invokevirtual 157, 3) := by decide +kernel
theorem ld_1141 : decode code 1141 = .ok (.pop, 1) := by decide +kernel
theorem ld_1142 : decode code 1142 = .ok (.aload_n 2, 1) := by decide +kernel
theorem ld_1143 : decode code 1143 = .ok (.aload_n 0, 1) := by decide +kernel
theorem ld_1144 : decode code 1144 = .ok (.iload_n 3, 1) := by decide +kernel
theorem ld_1145 : decode code 1145 = .ok (.iconst 1, 1) := by decide +kernel
theorem ld_1146 : decode code 1146 = .ok (.iadd, 1) := by decide +kernel
theorem ld_1147 : decode code 1147 = .ok (.iaload, 1) := by decide +kernel
theorem ld_1148 : decode code 1148 = .ok (.aload_n 0, 1) := by decide +kernel
theorem ld_1149 : decode code 1149 = .ok (.iload_n 3, 1) := by decide +kernel
theorem ld_1150 : decode code 1150 = .ok (.iconst 2, 1) := by decide +kernel
theorem ld_1151 : decode code 1151 = .ok (.iadd, 1) := by decide +kernel
theorem ld_1152 : decode code 1152 = .ok (.iaload, 1) := by decide +kernel
theorem ld_1153 : decode code 1153 = .ok (.invokevirtual 160, 3) := by decide +kernel
theorem ld_1156 : decode code 1156 = .ok (.pop, 1) := by decide +kernel
theorem ld_1157 : decode code 1157 = .ok (.goto (260), 3) := by decide +kernel
theorem ld_1160 : decode code 1160 = .ok (.aload_n 1, 1) := by decide +kernel
theorem ld_1161 : decode code 1161 = .ok (.aload_n 0, 1) := by decide +kernel
theorem ld_1162 : decode code 1162 = .ok (.iload_n 3, 1) := by decide +kernel
theorem ld_1163 : decode code 1163 = .ok (.iconst 1, 1) := by decide +kernel
theorem ld_1164 : decode code 1164 = .ok (.iadd, 1) := by decide +kernel
theorem ld_1165 : decode code 1165 = .ok (.iaload, 1) := by decide +kernel
theorem ld_1166 : decode code 1166 = .ok (.invokevirtual 161, 3) := by decide +kernel
theorem ld_1169 : decode code 1169 = .ok (.pop, 1) := by decide +kernel
theorem ld_1170 : decode code 1170 = .ok (.aload_n 2, 1) := by decide +kernel
theorem ld_1171 : decode code 1171 = .ok (.aload_n 0, 1) := by decide +kernel
theorem ld_1172 : decode code 1172 = .ok (.iload_n 3, 1) := by decide +kernel
theorem ld_1173 : decode code 1173 = .ok (.iconst 1, 1) := by decide +kernel
theorem ld_1174 : decode code 1174 = .ok (.iadd, 1) := by decide +kernel
theorem ld_1175 : decode code 1175 = .ok (.iaload, 1) := by decide +kernel
theorem ld_1176 : decode code 1176 = .ok (.invokevirtual 164, 3) := by decide +kernel
theorem ld_1179 : decode code 1179 = .ok (.pop, 1) := by decide +kernel
theorem ld_1180 : decode code 1180 = .ok (.goto (237), 3) := by decide +kernel
theorem ld_1183 : decode code 1183 = .ok (.aload_n 1, 1) := by decide +kernel
theorem ld_1184 : decode code 1184 = .ok (.aload_n 0, 1) := by decide +kernel
theorem ld_1185 : decode code 1185 = .ok (.iload_n 3, 1) := by decide +kernel
theorem ld_1186 : decode code 1186 = .ok (.iconst 1, 1) := by decide +kernel
theorem ld_1187 : decode code 1187 = .ok (.iadd, 1) := by decide +kernel
theorem ld_1188 : decode code 1188 = .ok (.iaload, 1) := by decide +kernel
theorem ld_1189 : decode code 1189 = .ok (.aload_n 0, 1) := by decide +kernel
theorem ld_1190 : decode code 1190 = .ok (.iload_n 3, 1) := by decide +kernel
theorem ld_1191 : decode code 1191 = .ok (.iconst 2, 1) := by decide +kernel
theorem ld_1192 : decode code 1192 = .ok (.iadd, 1) := by decide +kernel
theorem ld_1193 : decode code 1193 = .ok (.iaload, 1) := by decide +kernel
theorem ld_1194 : decode code 1194 = .ok (.aload_n 0, 1) := by decide +kernel
theorem ld_1195 : decode code 1195 = .ok (.iload_n 3, 1) := by decide +kernel
theorem ld_1196 : decode code 1196 = .ok (.iconst 3, 1) := by decide +kernel
theorem ld_1197 : decode code 1197 = .ok (.iadd, 1) := by decide +kernel
theorem ld_1198 : decode code 1198 = .ok (.iaload, 1) := by decide +kernel
theorem ld_1199 : decode code 1199 = .ok (.invokevirtual 165, 3) := by decide +kernel
theorem ld_1202 : decode code 1202 = .ok (.pop, 1) := by decide +kernel
theorem ld_1203 : decode code 1203 = .ok (.aload_n 2, 1) := by decide +kernel
theorem ld_1204 : decode code 1204 = .ok (.aload_n 0, 1) := by decide +kernel
theorem ld_1205 : decode code 1205 = .ok (.iload_n 3, 1) := by decide +kernel
theorem ld_1206 : decode code 1206 = .ok (.iconst 1, 1) := by decide +kernel
theorem ld_1207 : decode code 1207 = .ok (.iadd, 1) := by decide +kernel
theorem ld_1208 : decode code 1208 = .ok (.iaload, 1) := by decide +kernel
theorem ld_1209 : decode code 1209 = .ok (.aload_n 0, 1) := by decide +kernel
theorem ld_1210 : decode code 1210 = .ok (.iload_n 3, 1) := by decide +kernel
theorem ld_1211 : decode code 1211 = .ok (.iconst 2, 1) := by decide +kernel
theorem ld_1212 : decode code 1212 = .ok (.iadd, 1) := by decide +kernel
theorem ld_1213 : decode code 1213 = .ok (.iaload, 1) := by decide +kernel
theorem ld_1214 : decode code 1214 = .ok (.aload_n 0, 1) := by decide +kernel
theorem ld_1215 : decode code 1215 = .ok (.iload_n 3, 1) := by decide +kernel
theorem ld_1216 : decode code 1216 = .ok (.iconst 3, 1) := by decide +kernel
theorem ld_1217 : decode code 1217 = .ok (.iadd, 1) := by decide +kernel
theorem ld_1218 : decode code 1218 = .ok (.iaload, 1) := by decide +kernel
theorem ld_1219 : decode code 1219 = .ok (.invokevirtual 168, 3) := by decide +kernel
theorem ld_1222 : decode code 1222 = .ok (.pop, 1) := by decide +kernel
theorem ld_1223 : decode code 1223 = .ok (.goto (194), 3) := by decide +kernel
theorem ld_1226 : decode code 1226 = .ok (.aload_n 1, 1) := by decide +kernel
theorem ld_1227 : decode code 1227 = .ok (.aload_n 0, 1) := by decide +kernel
theorem ld_1228 : decode code 1228 = .ok (.iload_n 3, 1) := by decide +kernel
theorem ld_1229 : decode code 1229 = .ok (.iconst 1, 1) := by decide +kernel
theorem ld_1230 : decode code 1230 = .ok (.iadd, 1) := by decide +kernel
theorem ld_1231 : decode code 1231 = .ok (.iaload, 1) := by decide +kernel
theorem ld_1232 : decode code 1232 = .ok (.invokevirtual 169, 3) := by decide +kernel
theorem ld_1235 : decode code 1235 = .ok (.pop, 1) := by decide +kernel
theorem ld_1236 : decode code 1236 = .ok (.aload_n 2, 1) := by decide +kernel
theorem ld_1237 : decode code 1237 = .ok (.aload_n 0, 1) := by decide +kernel
theorem ld_1238 : decode code 1238 = .ok (.iload_n 3, 1) := by decide +kernel
theorem ld_1239 : decode code 1239 = .ok (.iconst 1, 1) := by decide +kernel
theorem ld_1240 : decode code 1240 = .ok (.iadd, 1) := by decide +kernel
theorem ld_1241 : decode code 1241 = .ok (.iaload, 1) := by decide +kernel
theorem ld_1242 : decode code 1242 = .ok (.invokevirtual 173, 3) := by decide +kernel
theorem ld_1245 : decode code 1245 = .ok (.pop, 1) := by decide +kernel
theorem ld_1246 : decode code 1246 = .ok (.goto (171), 3) := by decide +kernel
theorem ld_1249 : decode code 1249 = .ok (.aload_n 1, 1) := by decide +kernel
theorem ld_1250 : decode code 1250 = .ok (.aload_n 0, 1) := by decide +kernel
theorem ld_1251 : decode code 1251 = .ok (.iload_n 3, 1) := by decide +kernel
theorem ld_1252 : decode code 1252 = .ok (.iconst 1, 1) := by decide +kernel
theorem ld_1253 : decode code 1253 = .ok (.iadd, 1) := by decide +kernel
theorem ld_1254 : decode code 1254 = .ok (.iaload, 1) := by decide +kernel
theorem ld_1255 : decode code 1255 = .ok (.invokevirtual 174, 3) := by decide +kernel
theorem ld_1258 : decode code 1258 = .ok (.pop, 1) := by decide +kernel
theorem ld_1259 : decode code 1259 = .ok (.aload_n 2, 1) := by decide +kernel
theorem ld_1260 : decode code 1260 = .ok (.aload_n 0, 1) := by decide +kernel
theorem ld_1261 : decode code 1261 = .ok (.iload_n 3, 1) := by decide +kernel
theorem ld_1262 : decode code 1262 = .ok (.iconst 1, 1) := by decide +kernel
theorem ld_1263 : decode code 1263 = .ok (.iadd, 1) := by decide +kernel
theorem ld_1264 : decode code 1264 = .ok (.iaload, 1) := by decide +kernel
theorem ld_1265 : decode code 1265 = .ok (.invokevirtual 177, 3) := by decide +kernel
theorem ld_1268 : decode code 1268 = .ok (.pop, 1) := by decide +kernel
theorem ld_1269 : decode code 1269 = .ok (.goto (148), 3) := by decide +kernel
theorem ld_1272 : decode code 1272 = .ok (.aload_n 1, 1) := by decide +kernel
theorem ld_1273 : decode code 1273 = .ok (.aload_n 0, 1) := by decide +kernel
theorem ld_1274 : decode code 1274 = .ok (.iload_n 3, 1) := by decide +kernel
theorem ld_1275 : decode code 1275 = .ok (.iconst 1, 1) := by decide +kernel
theorem ld_1276 : decode code 1276 = .ok (.iadd, 1) := by decide +kernel
theorem ld_1277 : decode code 1277 = .ok (.iaload, 1) := by decide +kernel
theorem ld_1278 : decode code 1278 = .ok (.aload_n 0, 1) := by decide +kernel
theorem ld_1279 : decode code 1279 = .ok (.iload_n 3, 1) := by decide +kernel
theorem ld_1280 : decode code 1280 = .ok (.iconst 2, 1) := by decide +kernel
theorem ld_1281 : decode code 1281 = .ok (.iadd, 1) := by decide +kernel
theorem ld_1282 : decode code 1282 = .ok (.iaload, 1) := by decide +kernel
theorem ld_1283 : decode code 1283 = .ok (.invokevirtual 178, 3) := by decide +kernel
theorem ld_1286 : decode code 1286 = .ok (.pop, 1) := by decide +kernel
theorem ld_1287 : decode code 1287 = .ok (.aload_n 2, 1) := by decide +kernel
theorem ld_1288 : decode code 1288 = .ok (.aload_n 0, 1) := by decide +kernel
theorem ld_1289 : decode code 1289 = .ok (.iload_n 3, 1) := by decide +kernel
theorem ld_1290 : decode code 1290 = .ok (.iconst 1, 1) := by decide +kernel
theorem ld_1291 : decode code 1291 = .ok (.iadd, 1) := by decide +kernel
theorem ld_1292 : decode code 1292 = .ok (.iaload, 1) := by decide +kernel
theorem ld_1293 : decode code 1293 = .ok (.aload_n 0, 1) := by decide +kernel
theorem ld_1294 : decode code 1294 = .ok (.iload_n 3, 1) := by decide +kernel
theorem ld_1295 : decode code 1295 = .ok (.iconst 2, 1) := by decide +kernel
theorem ld_1296 : decode code 1296 = .ok (.iadd, 1) := by decide +kernel
theorem ld_1297 : decode code 1297 = .ok (.iaload, 1) := by decide +kernel
theorem ld_1298 : decode code 1298 = .ok (.invokevirtual 181, 3) := by decide +kernel
theorem ld_1301 : decode code 1301 = .ok (.pop, 1) := by decide +kernel
theorem ld_1302 : decode code 1302 = .ok (.goto (115), 3) := by decide +kernel
theorem ld_1305 : decode code 1305 = .ok (.aload_n 1, 1) := by decide +kernel
theorem ld_1306 : decode code 1306 = .ok (.aload_n 0, 1) := by decide +kernel
theorem ld_1307 : decode code 1307 = .ok (.iload_n 3, 1) := by decide +kernel
theorem ld_1308 : decode code 1308 = .ok (.iconst 1, 1) := by decide +kernel
theorem ld_1309 : decode code 1309 = .ok (.iadd, 1) := by decide +kernel
theorem ld_1310 : decode code 1310 = .ok (.iaload, 1) := by decide +kernel
theorem ld_1311 : decode code 1311 = .ok (.aload_n 0, 1) := by decide +kernel
theorem ld_1312 : decode code 1312 = .ok (.iload_n 3, 1) := by decide +kernel
theorem ld_1313 : decode code 1313 = .ok (.iconst 2, 1) := by decide +kernel
theorem ld_1314 : decode code 1314 = .ok (.iadd, 1) := by decide +kernel
theorem ld_1315 : decode code 1315 = .ok (.iaload, 1) := by decide +kernel
theorem ld_1316 : decode code 1316 = .ok (.aload_n 0, 1) := by decide +kernel
theorem ld_1317 : decode code 1317 = .ok (.iload_n 3, 1) := by decide +kernel
theorem ld_1318 : decode code 1318 = .ok (.iconst 3, 1) := by decide +kernel
theorem ld_1319 : decode code 1319 = .ok (.iadd, 1) := by decide +kernel
theorem ld_1320 : decode code 1320 = .ok (.iaload, 1) := by decide +kernel
theorem ld_1321 : decode code 1321 = .ok (.invokevirtual 182, 3) := by decide +kernel
theorem ld_1324 : decode code 1324 = .ok (.pop, 1) := by decide +kernel
theorem ld_1325 : decode code 1325 = .ok (.aload_n 2, 1) := by decide +kernel
theorem ld_1326 : decode code 1326 = .ok (.aload_n 0, 1) := by decide +kernel
theorem ld_1327 : decode code 1327 = .ok (.iload_n 3, 1) := by decide +kernel
theorem ld_1328 : decode code 1328 = .ok (.iconst 1, 1) := by decide +kernel
theorem ld_1329 : decode code 1329 = .ok (.iadd, 1) := by decide +kernel
theorem ld_1330 : decode code 1330 = .ok (.iaload, 1) := by decide +kernel
theorem ld_1331 : decode code 1331 = .ok (.aload_n 0, 1) := by decide +kernel
theorem ld_1332 : decode code 1332 = .ok (.iload_n 3, 1) := by decide +kernel
theorem ld_1333 : decode code 1333 = .ok (.iconst 2, 1) := by decide +kernel
theorem ld_1334 : decode code 1334 = .ok (.iadd, 1) := by decide +kernel
theorem ld_1335 : decode code 1335 = .ok (.iaload, 1) := by decide +kernel
theorem ld_1336 : decode code 1336 = .ok (.aload_n 0, 1) := by decide +kernel
theorem ld_1337 : decode code 1337 = .ok (.iload_n 3, 1) := by decide +kernel
theorem ld_1338 : decode code 1338 = .ok (.iconst 3, 1) := by decide +kernel
theorem ld_1339 : decode code 1339 = .ok (.iadd, 1) := by decide +kernel
theorem ld_1340 : decode code 1340 = .ok (.iaload, 1) := by decide +kernel
theorem ld_1341 : decode code 1341 = .ok (.invokevirtual 185, 3) := by decide +kernel
theorem ld_1344 : decode code 1344 = .ok (.pop, 1) := by decide +kernel
theorem ld_1345 : decode code 1345 = .ok (.goto (72), 3) := by decide +kernel
theorem ld_1348 : decode code 1348 = .ok (.aload_n 1, 1) := by decide +kernel
theorem ld_1349 : decode code 1349 = .ok (.aload_n 0, 1) := by decide +kernel
theorem ld_1350 : decode code 1350 = .ok (.iload_n 3, 1) := by decide +kernel
theorem ld_1351 : decode code 1351 = .ok (.iconst 1, 1) := by decide +kernel
theorem ld_1352 : decode code 1352 = .ok (.iadd, 1) := by decide +kernel
theorem ld_1353 : decode code 1353 = .ok (.iaload, 1) := by decide +kernel
theorem ld_1354 : decode code 1354 = .ok (.invokevirtual 186, 3) := by decide +kernel
theorem ld_1357 : decode code 1357 = .ok (.pop, 1) := by decide +kernel
theorem ld_1358 : decode code 1358 = .ok (.aload_n 2, 1) := by decide +kernel
theorem ld_1359 : decode code 1359 = .ok (.aload_n 0, 1) := by decide +kernel
theorem ld_1360 : decode code 1360 = .ok (.iload_n 3, 1) := by decide +kernel
theorem ld_1361 : decode code 1361 = .ok (.iconst 1, 1) := by decide +kernel
theorem ld_1362 : decode code 1362 = .ok (.iadd, 1) := by decide +kernel
theorem ld_1363 : decode code 1363 = .ok (.iaload, 1) := by decide +kernel
theorem ld_1364 : decode code 1364 = .ok (.invokevirtual 189, 3) := by decide +kernel
theorem ld_1367 : decode code 1367 = .ok (.pop, 1) := by decide +kernel
theorem ld_1368 : decode code 1368 = .ok (.goto (49), 3) := by decide +kernel
theorem ld_1371 : decode code 1371 = .ok (.aload_n 1, 1) := by decide +kernel
theorem ld_1372 : decode code 1372 = .ok (.aload_n 0, 1) := by decide +kernel
theorem ld_1373 : decode code 1373 = .ok (.iload_n 3, 1) := by decide +kernel
theorem ld_1374 : decode code 1374 = .ok (.iconst 1, 1) := by decide +kernel
theorem ld_1375 : decode code 1375 = .ok (.iadd, 1) := by decide +kernel
theorem ld_1376 : decode code 1376 = .ok (.iaload, 1) := by decide +kernel
theorem ld_1377 : decode code 1377 = .ok (.invokevirtual 190, 3) := by decide +kernel
theorem ld_1380 : decode code 1380 = .ok (.pop, 1) := by decide +kernel
theorem ld_1381 : decode code 1381 = .ok (.aload_n 2, 1) := by decide +kernel
theorem ld_1382 : decode code 1382 = .ok (.aload_n 0, 1) := by decide +kernel
theorem ld_1383 : decode code 1383 = .ok (.iload_n 3, 1) := by decide +kernel
theorem ld_1384 : decode code 1384 = .ok (.iconst 1, 1) := by decide +kernel
theorem ld_1385 : decode code 1385 = .ok (.iadd, 1) := by decide +kernel
theorem ld_1386 : decode code 1386 = .ok (.iaload, 1) := by decide +kernel
theorem ld_1387 : decode code 1387 = .ok (.invokevirtual 193, 3) := by decide +kernel
theorem ld_1390 : decode code 1390 = .ok (.pop, 1) := by decide +kernel
theorem ld_1391 : decode code 1391 = .ok (.goto (26), 3) := by decide +kernel
theorem ld_1394 : decode code 1394 = .ok (.aload_n 1, 1) := by decide +kernel
theorem ld_1395 : decode code 1395 = .ok (.aload_n 0, 1) := by decide +kernel
theorem ld_1396 : decode code 1396 = .ok (.iload_n 3, 1) := by decide +kernel
theorem ld_1397 : decode code 1397 = .ok (.iconst 1, 1) := by decide +kernel
theorem ld_1398 : decode code 1398 = .ok (.iadd, 1) := by decide +kernel
theorem ld_1399 : decode code 1399 = .ok (.iaload, 1) := by decide +kernel
theorem ld_1400 : decode code 1400 = .ok (.invokevirtual 194, 3) := by decide +kernel
theorem ld_1403 : decode code 1403 = .ok (.pop, 1) := by decide +kernel
theorem ld_1404 : decode code 1404 = .ok (.aload_n 2, 1) := by decide +kernel
theorem ld_1405 : decode code 1405 = .ok (.aload_n 0, 1) := by decide +kernel
theorem ld_1406 : decode code 1406 = .ok (.iload_n 3, 1) := by decide +kernel
theorem ld_1407 : decode code 1407 = .ok (.iconst 1, 1) := by decide +kernel
theorem ld_1408 : decode code 1408 = .ok (.iadd, 1) := by decide +kernel
theorem ld_1409 : decode code 1409 = .ok (.iaload, 1) := by decide +kernel
theorem ld_1410 : decode code 1410 = .ok (.invokevirtual 197, 3) := by decide +kernel
theorem ld_1413 : decode code 1413 = .ok (.pop, 1) := by decide +kernel
theorem ld_1414 : decode code 1414 = .ok (.goto (3), 3) := by decide +kernel
theorem ld_1417 : decode code 1417 = .ok (.iinc 3 6, 3) := by decide +kernel
theorem ld_1420 : decode code 1420 = .ok (.goto (-1402), 3) := by decide +kernel
theorem ld_1423 : decode code 1423 = .ok (.iconst 1, 1) := by decide +kernel
theorem ld_1424 : decode code 1424 = .ok (.ireturn, 1) := by decide +kernel
