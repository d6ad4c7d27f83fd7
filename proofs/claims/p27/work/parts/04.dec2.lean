theorem dL_law_804 : decode cL_law 804 = .ok (.isub, 1) := by decide +kernel
theorem dL_law_805 : decode cL_law 805 = .ok (.istore 19, 2) := by decide +kernel
theorem dL_law_807 : decode cL_law 807 = .ok (.iload 19, 2) := by decide +kernel
theorem dL_law_809 : decode cL_law 809 = .ok (.ifCond .ge 7, 3) := by decide +kernel
theorem dL_law_812 : decode cL_law 812 = .ok (.iconst 0, 1) := by decide +kernel
theorem dL_law_813 : decode cL_law 813 = .ok (.goto 11, 3) := by decide +kernel
theorem dL_law_816 : decode cL_law 816 = .ok (.aload_n 1, 1) := by decide +kernel
theorem dL_law_817 : decode cL_law 817 = .ok (.iload 15, 2) := by decide +kernel
theorem dL_law_819 : decode cL_law 819 = .ok (.iload 19, 2) := by decide +kernel
theorem dL_law_821 : decode cL_law 821 = .ok (.invokevirtual 56, 3) := by decide +kernel
theorem dL_law_824 : decode cL_law 824 = .ok (.istore 20, 2) := by decide +kernel
theorem dL_law_826 : decode cL_law 826 = .ok (.aload_n 1, 1) := by decide +kernel
theorem dL_law_827 : decode cL_law 827 = .ok (.iload 18, 2) := by decide +kernel
theorem dL_law_829 : decode cL_law 829 = .ok (.iload 15, 2) := by decide +kernel
theorem dL_law_831 : decode cL_law 831 = .ok (.iload 19, 2) := by decide +kernel
theorem dL_law_833 : decode cL_law 833 = .ok (.invokevirtual 108, 3) := by decide +kernel
theorem dL_law_836 : decode cL_law 836 = .ok (.istore 21, 2) := by decide +kernel
theorem dL_law_838 : decode cL_law 838 = .ok (.iload 21, 2) := by decide +kernel
theorem dL_law_840 : decode cL_law 840 = .ok (.iconst (-1), 1) := by decide +kernel
theorem dL_law_841 : decode cL_law 841 = .ok (.if_icmp .lt 61, 3) := by decide +kernel
theorem dL_law_844 : decode cL_law 844 = .ok (.iload 21, 2) := by decide +kernel
theorem dL_law_846 : decode cL_law 846 = .ok (.bipush 10, 2) := by decide +kernel
theorem dL_law_848 : decode cL_law 848 = .ok (.if_icmp .ge 54, 3) := by decide +kernel
theorem dL_law_851 : decode cL_law 851 = .ok (.iload 19, 2) := by decide +kernel
theorem dL_law_853 : decode cL_law 853 = .ok (.ifCond .lt 30, 3) := by decide +kernel
theorem dL_law_856 : decode cL_law 856 = .ok (.aload_n 1, 1) := by decide +kernel
theorem dL_law_857 : decode cL_law 857 = .ok (.iload 15, 2) := by decide +kernel
theorem dL_law_859 : decode cL_law 859 = .ok (.iload 19, 2) := by decide +kernel
theorem dL_law_861 : decode cL_law 861 = .ok (.invokevirtual 56, 3) := by decide +kernel
theorem dL_law_864 : decode cL_law 864 = .ok (.iload 21, 2) := by decide +kernel
theorem dL_law_866 : decode cL_law 866 = .ok (.iload 19, 2) := by decide +kernel
theorem dL_law_868 : decode cL_law 868 = .ok (.if_icmp .ne 8, 3) := by decide +kernel
theorem dL_law_871 : decode cL_law 871 = .ok (.iload 20, 2) := by decide +kernel
theorem dL_law_873 : decode cL_law 873 = .ok (.goto 7, 3) := by decide +kernel
theorem dL_law_876 : decode cL_law 876 = .ok (.iload 20, 2) := by decide +kernel
theorem dL_law_878 : decode cL_law 878 = .ok (.iconst 1, 1) := by decide +kernel
theorem dL_law_879 : decode cL_law 879 = .ok (.iadd, 1) := by decide +kernel
theorem dL_law_880 : decode cL_law 880 = .ok (.if_icmp .ne 22, 3) := by decide +kernel
theorem dL_law_883 : decode cL_law 883 = .ok (.aload_n 1, 1) := by decide +kernel
theorem dL_law_884 : decode cL_law 884 = .ok (.iload 18, 2) := by decide +kernel
theorem dL_law_886 : decode cL_law 886 = .ok (.iload 15, 2) := by decide +kernel
theorem dL_law_888 : decode cL_law 888 = .ok (.iload 19, 2) := by decide +kernel
theorem dL_law_890 : decode cL_law 890 = .ok (.invokevirtual 108, 3) := by decide +kernel
theorem dL_law_893 : decode cL_law 893 = .ok (.iload 19, 2) := by decide +kernel
theorem dL_law_895 : decode cL_law 895 = .ok (.if_icmp .ne 7, 3) := by decide +kernel
theorem dL_law_898 : decode cL_law 898 = .ok (.iconst 1, 1) := by decide +kernel
theorem dL_law_899 : decode cL_law 899 = .ok (.goto 4, 3) := by decide +kernel
theorem dL_law_902 : decode cL_law 902 = .ok (.iconst 0, 1) := by decide +kernel
theorem dL_law_903 : decode cL_law 903 = .ok (.istore 6, 2) := by decide +kernel
theorem dL_law_905 : decode cL_law 905 = .ok (.goto 219, 3) := by decide +kernel
theorem dL_law_908 : decode cL_law 908 = .ok (.iload 10, 2) := by decide +kernel
theorem dL_law_910 : decode cL_law 910 = .ok (.iconst 2, 1) := by decide +kernel
theorem dL_law_911 : decode cL_law 911 = .ok (.ishr, 1) := by decide +kernel
theorem dL_law_912 : decode cL_law 912 = .ok (.sipush 181, 3) := by decide +kernel
theorem dL_law_915 : decode cL_law 915 = .ok (.irem, 1) := by decide +kernel
theorem dL_law_916 : decode cL_law 916 = .ok (.bipush 90, 2) := by decide +kernel
theorem dL_law_918 : decode cL_law 918 = .ok (.isub, 1) := by decide +kernel
theorem dL_law_919 : decode cL_law 919 = .ok (.istore 18, 2) := by decide +kernel
theorem dL_law_921 : decode cL_law 921 = .ok (.iload 10, 2) := by decide +kernel
theorem dL_law_923 : decode cL_law 923 = .ok (.bipush 6, 2) := by decide +kernel
theorem dL_law_925 : decode cL_law 925 = .ok (.ishr, 1) := by decide +kernel
theorem dL_law_926 : decode cL_law 926 = .ok (.sipush 365, 3) := by decide +kernel
theorem dL_law_929 : decode cL_law 929 = .ok (.irem, 1) := by decide +kernel
theorem dL_law_930 : decode cL_law 930 = .ok (.istore 19, 2) := by decide +kernel
theorem dL_law_932 : decode cL_law 932 = .ok (.aload_n 1, 1) := by decide +kernel
theorem dL_law_933 : decode cL_law 933 = .ok (.iload 15, 2) := by decide +kernel
theorem dL_law_935 : decode cL_law 935 = .ok (.iload 18, 2) := by decide +kernel
theorem dL_law_937 : decode cL_law 937 = .ok (.iload 19, 2) := by decide +kernel
theorem dL_law_939 : decode cL_law 939 = .ok (.invokevirtual 62, 3) := by decide +kernel
theorem dL_law_942 : decode cL_law 942 = .ok (.istore 20, 2) := by decide +kernel
theorem dL_law_944 : decode cL_law 944 = .ok (.iload 20, 2) := by decide +kernel
theorem dL_law_946 : decode cL_law 946 = .ok (.ifCond .lt 13, 3) := by decide +kernel
theorem dL_law_949 : decode cL_law 949 = .ok (.iload 10, 2) := by decide +kernel
theorem dL_law_951 : decode cL_law 951 = .ok (.bipush 8, 2) := by decide +kernel
theorem dL_law_953 : decode cL_law 953 = .ok (.ishr, 1) := by decide +kernel
theorem dL_law_954 : decode cL_law 954 = .ok (.iconst 3, 1) := by decide +kernel
theorem dL_law_955 : decode cL_law 955 = .ok (.iand, 1) := by decide +kernel
theorem dL_law_956 : decode cL_law 956 = .ok (.ifCond .ne 14, 3) := by decide +kernel
theorem dL_law_959 : decode cL_law 959 = .ok (.iload 10, 2) := by decide +kernel
theorem dL_law_961 : decode cL_law 961 = .ok (.bipush 10, 2) := by decide +kernel
theorem dL_law_963 : decode cL_law 963 = .ok (.ishr, 1) := by decide +kernel
theorem dL_law_964 : decode cL_law 964 = .ok (.bipush 24, 2) := by decide +kernel
theorem dL_law_966 : decode cL_law 966 = .ok (.irem, 1) := by decide +kernel
theorem dL_law_967 : decode cL_law 967 = .ok (.goto 5, 3) := by decide +kernel
theorem dL_law_970 : decode cL_law 970 = .ok (.iload 20, 2) := by decide +kernel
theorem dL_law_972 : decode cL_law 972 = .ok (.istore 21, 2) := by decide +kernel
theorem dL_law_974 : decode cL_law 974 = .ok (.aload_n 1, 1) := by decide +kernel
theorem dL_law_975 : decode cL_law 975 = .ok (.iload 15, 2) := by decide +kernel
theorem dL_law_977 : decode cL_law 977 = .ok (.iload 18, 2) := by decide +kernel
theorem dL_law_979 : decode cL_law 979 = .ok (.iload 19, 2) := by decide +kernel
theorem dL_law_981 : decode cL_law 981 = .ok (.iload 21, 2) := by decide +kernel
theorem dL_law_983 : decode cL_law 983 = .ok (.invokevirtual 68, 3) := by decide +kernel
theorem dL_law_986 : decode cL_law 986 = .ok (.ifCond .eq 23, 3) := by decide +kernel
theorem dL_law_989 : decode cL_law 989 = .ok (.aload_n 1, 1) := by decide +kernel
theorem dL_law_990 : decode cL_law 990 = .ok (.iload 15, 2) := by decide +kernel
theorem dL_law_992 : decode cL_law 992 = .ok (.invokevirtual 53, 3) := by decide +kernel
theorem dL_law_995 : decode cL_law 995 = .ok (.ifCond .lt 14, 3) := by decide +kernel
theorem dL_law_998 : decode cL_law 998 = .ok (.iload 5, 2) := by decide +kernel
theorem dL_law_1000 : decode cL_law 1000 = .ok (.bipush 12, 2) := by decide +kernel
theorem dL_law_1002 : decode cL_law 1002 = .ok (.if_icmp .ge 7, 3) := by decide +kernel
theorem dL_law_1005 : decode cL_law 1005 = .ok (.iconst 1, 1) := by decide +kernel
theorem dL_law_1006 : decode cL_law 1006 = .ok (.goto 4, 3) := by decide +kernel
theorem dL_law_1009 : decode cL_law 1009 = .ok (.iconst 0, 1) := by decide +kernel
theorem dL_law_1010 : decode cL_law 1010 = .ok (.istore 22, 2) := by decide +kernel
theorem dL_law_1012 : decode cL_law 1012 = .ok (.aload_n 1, 1) := by decide +kernel
theorem dL_law_1013 : decode cL_law 1013 = .ok (.iload 15, 2) := by decide +kernel
theorem dL_law_1015 : decode cL_law 1015 = .ok (.iload 18, 2) := by decide +kernel
theorem dL_law_1017 : decode cL_law 1017 = .ok (.iload 19, 2) := by decide +kernel
theorem dL_law_1019 : decode cL_law 1019 = .ok (.iload 21, 2) := by decide +kernel
theorem dL_law_1021 : decode cL_law 1021 = .ok (.invokestatic 111, 3) := by decide +kernel
theorem dL_law_1024 : decode cL_law 1024 = .ok (.istore 23, 2) := by decide +kernel
theorem dL_law_1026 : decode cL_law 1026 = .ok (.iload 23, 2) := by decide +kernel
theorem dL_law_1028 : decode cL_law 1028 = .ok (.iload 22, 2) := by decide +kernel
theorem dL_law_1030 : decode cL_law 1030 = .ok (.ifCond .eq 8, 3) := by decide +kernel
theorem dL_law_1033 : decode cL_law 1033 = .ok (.iload 5, 2) := by decide +kernel
theorem dL_law_1035 : decode cL_law 1035 = .ok (.goto 5, 3) := by decide +kernel
theorem dL_law_1038 : decode cL_law 1038 = .ok (.bipush (-3), 2) := by decide +kernel
theorem dL_law_1040 : decode cL_law 1040 = .ok (.if_icmp .ne 21, 3) := by decide +kernel
theorem dL_law_1043 : decode cL_law 1043 = .ok (.iload 22, 2) := by decide +kernel
theorem dL_law_1045 : decode cL_law 1045 = .ok (.ifCond .eq 12, 3) := by decide +kernel
theorem dL_law_1048 : decode cL_law 1048 = .ok (.aload_n 1, 1) := by decide +kernel
theorem dL_law_1049 : decode cL_law 1049 = .ok (.iload 23, 2) := by decide +kernel
theorem dL_law_1051 : decode cL_law 1051 = .ok (.invokevirtual 115, 3) := by decide +kernel
theorem dL_law_1054 : decode cL_law 1054 = .ok (.ifCond .ne 7, 3) := by decide +kernel
theorem dL_law_1057 : decode cL_law 1057 = .ok (.iconst 1, 1) := by decide +kernel
theorem dL_law_1058 : decode cL_law 1058 = .ok (.goto 4, 3) := by decide +kernel
theorem dL_law_1061 : decode cL_law 1061 = .ok (.iconst 0, 1) := by decide +kernel
theorem dL_law_1062 : decode cL_law 1062 = .ok (.istore 6, 2) := by decide +kernel
theorem dL_law_1064 : decode cL_law 1064 = .ok (.iload 22, 2) := by decide +kernel
theorem dL_law_1066 : decode cL_law 1066 = .ok (.ifCond .eq 58, 3) := by decide +kernel
theorem dL_law_1069 : decode cL_law 1069 = .ok (.aload_n 2, 1) := by decide +kernel
theorem dL_law_1070 : decode cL_law 1070 = .ok (.iconst 5, 1) := by decide +kernel
theorem dL_law_1071 : decode cL_law 1071 = .ok (.iload 5, 2) := by decide +kernel
theorem dL_law_1073 : decode cL_law 1073 = .ok (.imul, 1) := by decide +kernel
theorem dL_law_1074 : decode cL_law 1074 = .ok (.iload 15, 2) := by decide +kernel
theorem dL_law_1076 : decode cL_law 1076 = .ok (.iastore, 1) := by decide +kernel
theorem dL_law_1077 : decode cL_law 1077 = .ok (.aload_n 2, 1) := by decide +kernel
theorem dL_law_1078 : decode cL_law 1078 = .ok (.iconst 5, 1) := by decide +kernel
theorem dL_law_1079 : decode cL_law 1079 = .ok (.iload 5, 2) := by decide +kernel
theorem dL_law_1081 : decode cL_law 1081 = .ok (.imul, 1) := by decide +kernel
theorem dL_law_1082 : decode cL_law 1082 = .ok (.iconst 1, 1) := by decide +kernel
theorem dL_law_1083 : decode cL_law 1083 = .ok (.iadd, 1) := by decide +kernel
theorem dL_law_1084 : decode cL_law 1084 = .ok (.iload 18, 2) := by decide +kernel
theorem dL_law_1086 : decode cL_law 1086 = .ok (.iastore, 1) := by decide +kernel
theorem dL_law_1087 : decode cL_law 1087 = .ok (.aload_n 2, 1) := by decide +kernel
theorem dL_law_1088 : decode cL_law 1088 = .ok (.iconst 5, 1) := by decide +kernel
theorem dL_law_1089 : decode cL_law 1089 = .ok (.iload 5, 2) := by decide +kernel
theorem dL_law_1091 : decode cL_law 1091 = .ok (.imul, 1) := by decide +kernel
theorem dL_law_1092 : decode cL_law 1092 = .ok (.iconst 2, 1) := by decide +kernel
theorem dL_law_1093 : decode cL_law 1093 = .ok (.iadd, 1) := by decide +kernel
theorem dL_law_1094 : decode cL_law 1094 = .ok (.iload 19, 2) := by decide +kernel
theorem dL_law_1096 : decode cL_law 1096 = .ok (.iastore, 1) := by decide +kernel
theorem dL_law_1097 : decode cL_law 1097 = .ok (.aload_n 2, 1) := by decide +kernel
theorem dL_law_1098 : decode cL_law 1098 = .ok (.iconst 5, 1) := by decide +kernel
theorem dL_law_1099 : decode cL_law 1099 = .ok (.iload 5, 2) := by decide +kernel
theorem dL_law_1101 : decode cL_law 1101 = .ok (.imul, 1) := by decide +kernel
theorem dL_law_1102 : decode cL_law 1102 = .ok (.iconst 3, 1) := by decide +kernel
theorem dL_law_1103 : decode cL_law 1103 = .ok (.iadd, 1) := by decide +kernel
theorem dL_law_1104 : decode cL_law 1104 = .ok (.iload 21, 2) := by decide +kernel
theorem dL_law_1106 : decode cL_law 1106 = .ok (.iastore, 1) := by decide +kernel
theorem dL_law_1107 : decode cL_law 1107 = .ok (.aload_n 2, 1) := by decide +kernel
theorem dL_law_1108 : decode cL_law 1108 = .ok (.iconst 5, 1) := by decide +kernel
theorem dL_law_1109 : decode cL_law 1109 = .ok (.iload 5, 2) := by decide +kernel
theorem dL_law_1111 : decode cL_law 1111 = .ok (.imul, 1) := by decide +kernel
theorem dL_law_1112 : decode cL_law 1112 = .ok (.iconst 4, 1) := by decide +kernel
theorem dL_law_1113 : decode cL_law 1113 = .ok (.iadd, 1) := by decide +kernel
theorem dL_law_1114 : decode cL_law 1114 = .ok (.aload_n 1, 1) := by decide +kernel
theorem dL_law_1115 : decode cL_law 1115 = .ok (.iload 15, 2) := by decide +kernel
theorem dL_law_1117 : decode cL_law 1117 = .ok (.invokevirtual 53, 3) := by decide +kernel
theorem dL_law_1120 : decode cL_law 1120 = .ok (.iastore, 1) := by decide +kernel
theorem dL_law_1121 : decode cL_law 1121 = .ok (.iinc 5 1, 3) := by decide +kernel
theorem dL_law_1124 : decode cL_law 1124 = .ok (.iconst 0, 1) := by decide +kernel
theorem dL_law_1125 : decode cL_law 1125 = .ok (.istore 18, 2) := by decide +kernel
theorem dL_law_1127 : decode cL_law 1127 = .ok (.iconst 0, 1) := by decide +kernel
theorem dL_law_1128 : decode cL_law 1128 = .ok (.istore 19, 2) := by decide +kernel
theorem dL_law_1130 : decode cL_law 1130 = .ok (.iload 19, 2) := by decide +kernel
theorem dL_law_1132 : decode cL_law 1132 = .ok (.iload 5, 2) := by decide +kernel
theorem dL_law_1134 : decode cL_law 1134 = .ok (.if_icmp .ge 106, 3) := by decide +kernel
theorem dL_law_1137 : decode cL_law 1137 = .ok (.iload 6, 2) := by decide +kernel
theorem dL_law_1139 : decode cL_law 1139 = .ok (.ifCond .eq 101, 3) := by decide +kernel
theorem dL_law_1142 : decode cL_law 1142 = .ok (.iconst 5, 1) := by decide +kernel
theorem dL_law_1143 : decode cL_law 1143 = .ok (.iload 19, 2) := by decide +kernel
theorem dL_law_1145 : decode cL_law 1145 = .ok (.imul, 1) := by decide +kernel
theorem dL_law_1146 : decode cL_law 1146 = .ok (.istore 20, 2) := by decide +kernel
theorem dL_law_1148 : decode cL_law 1148 = .ok (.aload_n 1, 1) := by decide +kernel
theorem dL_law_1149 : decode cL_law 1149 = .ok (.aload_n 2, 1) := by decide +kernel
theorem dL_law_1150 : decode cL_law 1150 = .ok (.iload 20, 2) := by decide +kernel
theorem dL_law_1152 : decode cL_law 1152 = .ok (.iaload, 1) := by decide +kernel
theorem dL_law_1153 : decode cL_law 1153 = .ok (.aload_n 2, 1) := by decide +kernel
theorem dL_law_1154 : decode cL_law 1154 = .ok (.iload 20, 2) := by decide +kernel
theorem dL_law_1156 : decode cL_law 1156 = .ok (.iconst 1, 1) := by decide +kernel
theorem dL_law_1157 : decode cL_law 1157 = .ok (.iadd, 1) := by decide +kernel
theorem dL_law_1158 : decode cL_law 1158 = .ok (.iaload, 1) := by decide +kernel
theorem dL_law_1159 : decode cL_law 1159 = .ok (.aload_n 2, 1) := by decide +kernel
theorem dL_law_1160 : decode cL_law 1160 = .ok (.iload 20, 2) := by decide +kernel
theorem dL_law_1162 : decode cL_law 1162 = .ok (.iconst 2, 1) := by decide +kernel
theorem dL_law_1163 : decode cL_law 1163 = .ok (.iadd, 1) := by decide +kernel
theorem dL_law_1164 : decode cL_law 1164 = .ok (.iaload, 1) := by decide +kernel
theorem dL_law_1165 : decode cL_law 1165 = .ok (.aload_n 2, 1) := by decide +kernel
theorem dL_law_1166 : decode cL_law 1166 = .ok (.iload 20, 2) := by decide +kernel
theorem dL_law_1168 : decode cL_law 1168 = .ok (.iconst 3, 1) := by decide +kernel
theorem dL_law_1169 : decode cL_law 1169 = .ok (.iadd, 1) := by decide +kernel
theorem dL_law_1170 : decode cL_law 1170 = .ok (.iaload, 1) := by decide +kernel
theorem dL_law_1171 : decode cL_law 1171 = .ok (.invokevirtual 68, 3) := by decide +kernel
theorem dL_law_1174 : decode cL_law 1174 = .ok (.ifCond .eq 20, 3) := by decide +kernel
theorem dL_law_1177 : decode cL_law 1177 = .ok (.aload_n 1, 1) := by decide +kernel
theorem dL_law_1178 : decode cL_law 1178 = .ok (.aload_n 2, 1) := by decide +kernel
theorem dL_law_1179 : decode cL_law 1179 = .ok (.iload 20, 2) := by decide +kernel
theorem dL_law_1181 : decode cL_law 1181 = .ok (.iaload, 1) := by decide +kernel
theorem dL_law_1182 : decode cL_law 1182 = .ok (.invokevirtual 53, 3) := by decide +kernel
theorem dL_law_1185 : decode cL_law 1185 = .ok (.aload_n 2, 1) := by decide +kernel
theorem dL_law_1186 : decode cL_law 1186 = .ok (.iload 20, 2) := by decide +kernel
theorem dL_law_1188 : decode cL_law 1188 = .ok (.iconst 4, 1) := by decide +kernel
theorem dL_law_1189 : decode cL_law 1189 = .ok (.iadd, 1) := by decide +kernel
theorem dL_law_1190 : decode cL_law 1190 = .ok (.iaload, 1) := by decide +kernel
theorem dL_law_1191 : decode cL_law 1191 = .ok (.if_icmp .eq 7, 3) := by decide +kernel
theorem dL_law_1194 : decode cL_law 1194 = .ok (.iconst 1, 1) := by decide +kernel
theorem dL_law_1195 : decode cL_law 1195 = .ok (.goto 4, 3) := by decide +kernel
theorem dL_law_1198 : decode cL_law 1198 = .ok (.iconst 0, 1) := by decide +kernel
theorem dL_law_1199 : decode cL_law 1199 = .ok (.istore 21, 2) := by decide +kernel
theorem dL_law_1201 : decode cL_law 1201 = .ok (.iload 18, 2) := by decide +kernel
theorem dL_law_1203 : decode cL_law 1203 = .ok (.iload 21, 2) := by decide +kernel
theorem dL_law_1205 : decode cL_law 1205 = .ok (.ifCond .eq 7, 3) := by decide +kernel
theorem dL_law_1208 : decode cL_law 1208 = .ok (.iconst 1, 1) := by decide +kernel
theorem dL_law_1209 : decode cL_law 1209 = .ok (.goto 4, 3) := by decide +kernel
theorem dL_law_1212 : decode cL_law 1212 = .ok (.iconst 0, 1) := by decide +kernel
theorem dL_law_1213 : decode cL_law 1213 = .ok (.iadd, 1) := by decide +kernel
theorem dL_law_1214 : decode cL_law 1214 = .ok (.istore 18, 2) := by decide +kernel
theorem dL_law_1216 : decode cL_law 1216 = .ok (.aload_n 1, 1) := by decide +kernel
theorem dL_law_1217 : decode cL_law 1217 = .ok (.iload 19, 2) := by decide +kernel
theorem dL_law_1219 : decode cL_law 1219 = .ok (.invokevirtual 115, 3) := by decide +kernel
theorem dL_law_1222 : decode cL_law 1222 = .ok (.iload 21, 2) := by decide +kernel
theorem dL_law_1224 : decode cL_law 1224 = .ok (.if_icmp .ne 7, 3) := by decide +kernel
theorem dL_law_1227 : decode cL_law 1227 = .ok (.iconst 1, 1) := by decide +kernel
theorem dL_law_1228 : decode cL_law 1228 = .ok (.goto 4, 3) := by decide +kernel
theorem dL_law_1231 : decode cL_law 1231 = .ok (.iconst 0, 1) := by decide +kernel
theorem dL_law_1232 : decode cL_law 1232 = .ok (.istore 6, 2) := by decide +kernel
theorem dL_law_1234 : decode cL_law 1234 = .ok (.iinc 19 1, 3) := by decide +kernel
theorem dL_law_1237 : decode cL_law 1237 = .ok (.goto (-107), 3) := by decide +kernel
theorem dL_law_1240 : decode cL_law 1240 = .ok (.iload 6, 2) := by decide +kernel
theorem dL_law_1242 : decode cL_law 1242 = .ok (.ifCond .eq 23, 3) := by decide +kernel
theorem dL_law_1245 : decode cL_law 1245 = .ok (.aload_n 1, 1) := by decide +kernel
theorem dL_law_1246 : decode cL_law 1246 = .ok (.invokevirtual 76, 3) := by decide +kernel
theorem dL_law_1249 : decode cL_law 1249 = .ok (.iload 18, 2) := by decide +kernel
theorem dL_law_1251 : decode cL_law 1251 = .ok (.if_icmp .ne 14, 3) := by decide +kernel
theorem dL_law_1254 : decode cL_law 1254 = .ok (.aload_n 1, 1) := by decide +kernel
theorem dL_law_1255 : decode cL_law 1255 = .ok (.invokestatic 119, 3) := by decide +kernel
theorem dL_law_1258 : decode cL_law 1258 = .ok (.ifCond .eq 7, 3) := by decide +kernel
theorem dL_law_1261 : decode cL_law 1261 = .ok (.iconst 1, 1) := by decide +kernel
theorem dL_law_1262 : decode cL_law 1262 = .ok (.goto 4, 3) := by decide +kernel
theorem dL_law_1265 : decode cL_law 1265 = .ok (.iconst 0, 1) := by decide +kernel
theorem dL_law_1266 : decode cL_law 1266 = .ok (.istore 6, 2) := by decide +kernel
theorem dL_law_1268 : decode cL_law 1268 = .ok (.iload 6, 2) := by decide +kernel
theorem dL_law_1270 : decode cL_law 1270 = .ok (.ifCond .eq 83, 3) := by decide +kernel
theorem dL_law_1273 : decode cL_law 1273 = .ok (.aload_n 1, 1) := by decide +kernel
theorem dL_law_1274 : decode cL_law 1274 = .ok (.invokevirtual 41, 3) := by decide +kernel
theorem dL_law_1277 : decode cL_law 1277 = .ok (.ifCond .eq 72, 3) := by decide +kernel
theorem dL_law_1280 : decode cL_law 1280 = .ok (.aload_n 1, 1) := by decide +kernel
theorem dL_law_1281 : decode cL_law 1281 = .ok (.iload 10, 2) := by decide +kernel
theorem dL_law_1283 : decode cL_law 1283 = .ok (.aload_n 1, 1) := by decide +kernel
theorem dL_law_1284 : decode cL_law 1284 = .ok (.invokevirtual 41, 3) := by decide +kernel
theorem dL_law_1287 : decode cL_law 1287 = .ok (.irem, 1) := by decide +kernel
theorem dL_law_1288 : decode cL_law 1288 = .ok (.iload 10, 2) := by decide +kernel
theorem dL_law_1290 : decode cL_law 1290 = .ok (.iconst 3, 1) := by decide +kernel
theorem dL_law_1291 : decode cL_law 1291 = .ok (.ishr, 1) := by decide +kernel
theorem dL_law_1292 : decode cL_law 1292 = .ok (.sipush 181, 3) := by decide +kernel
theorem dL_law_1295 : decode cL_law 1295 = .ok (.irem, 1) := by decide +kernel
theorem dL_law_1296 : decode cL_law 1296 = .ok (.bipush 90, 2) := by decide +kernel
theorem dL_law_1298 : decode cL_law 1298 = .ok (.isub, 1) := by decide +kernel
theorem dL_law_1299 : decode cL_law 1299 = .ok (.iload 10, 2) := by decide +kernel
theorem dL_law_1301 : decode cL_law 1301 = .ok (.bipush 7, 2) := by decide +kernel
theorem dL_law_1303 : decode cL_law 1303 = .ok (.ishr, 1) := by decide +kernel
theorem dL_law_1304 : decode cL_law 1304 = .ok (.sipush 365, 3) := by decide +kernel
theorem dL_law_1307 : decode cL_law 1307 = .ok (.irem, 1) := by decide +kernel
theorem dL_law_1308 : decode cL_law 1308 = .ok (.iload 10, 2) := by decide +kernel
theorem dL_law_1310 : decode cL_law 1310 = .ok (.bipush 9, 2) := by decide +kernel
theorem dL_law_1312 : decode cL_law 1312 = .ok (.ishr, 1) := by decide +kernel
theorem dL_law_1313 : decode cL_law 1313 = .ok (.bipush 24, 2) := by decide +kernel
theorem dL_law_1315 : decode cL_law 1315 = .ok (.irem, 1) := by decide +kernel
theorem dL_law_1316 : decode cL_law 1316 = .ok (.invokestatic 123, 3) := by decide +kernel
theorem dL_law_1319 : decode cL_law 1319 = .ok (.ifCond .eq 34, 3) := by decide +kernel
theorem dL_law_1322 : decode cL_law 1322 = .ok (.aload_n 1, 1) := by decide +kernel
theorem dL_law_1323 : decode cL_law 1323 = .ok (.iconst 0, 1) := by decide +kernel
theorem dL_law_1324 : decode cL_law 1324 = .ok (.iload 10, 2) := by decide +kernel
theorem dL_law_1326 : decode cL_law 1326 = .ok (.aload_n 1, 1) := by decide +kernel
theorem dL_law_1327 : decode cL_law 1327 = .ok (.invokevirtual 41, 3) := by decide +kernel
theorem dL_law_1330 : decode cL_law 1330 = .ok (.irem, 1) := by decide +kernel
theorem dL_law_1331 : decode cL_law 1331 = .ok (.invokevirtual 49, 3) := by decide +kernel
theorem dL_law_1334 : decode cL_law 1334 = .ok (.aload_n 1, 1) := by decide +kernel
theorem dL_law_1335 : decode cL_law 1335 = .ok (.iload 10, 2) := by decide +kernel
theorem dL_law_1337 : decode cL_law 1337 = .ok (.aload_n 1, 1) := by decide +kernel
theorem dL_law_1338 : decode cL_law 1338 = .ok (.invokevirtual 41, 3) := by decide +kernel
theorem dL_law_1341 : decode cL_law 1341 = .ok (.irem, 1) := by decide +kernel
theorem dL_law_1342 : decode cL_law 1342 = .ok (.iconst 0, 1) := by decide +kernel
theorem dL_law_1343 : decode cL_law 1343 = .ok (.invokevirtual 49, 3) := by decide +kernel
theorem dL_law_1346 : decode cL_law 1346 = .ok (.if_icmp .ne 7, 3) := by decide +kernel
theorem dL_law_1349 : decode cL_law 1349 = .ok (.iconst 1, 1) := by decide +kernel
theorem dL_law_1350 : decode cL_law 1350 = .ok (.goto 4, 3) := by decide +kernel
theorem dL_law_1353 : decode cL_law 1353 = .ok (.iconst 0, 1) := by decide +kernel
theorem dL_law_1354 : decode cL_law 1354 = .ok (.istore 6, 2) := by decide +kernel
theorem dL_law_1356 : decode cL_law 1356 = .ok (.iinc 8 1, 3) := by decide +kernel
theorem dL_law_1359 : decode cL_law 1359 = .ok (.goto (-1286), 3) := by decide +kernel
theorem dL_law_1362 : decode cL_law 1362 = .ok (.iload 6, 2) := by decide +kernel
theorem dL_law_1364 : decode cL_law 1364 = .ok (.ireturn, 1) := by decide +kernel
