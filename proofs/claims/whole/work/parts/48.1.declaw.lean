theorem dL_law_926 : decode cL_law 926 = .ok (.iaload, 1) := by decide +kernel
theorem dL_law_927 : decode cL_law 927 = .ok (.aload_n 0, 1) := by decide +kernel
theorem dL_law_928 : decode cL_law 928 = .ok (.iload_n 3, 1) := by decide +kernel
theorem dL_law_929 : decode cL_law 929 = .ok (.iconst 2, 1) := by decide +kernel
theorem dL_law_930 : decode cL_law 930 = .ok (.iadd, 1) := by decide +kernel
theorem dL_law_931 : decode cL_law 931 = .ok (.iaload, 1) := by decide +kernel
theorem dL_law_932 : decode cL_law 932 = .ok (.invokevirtual 113, 3) := by decide +kernel
theorem dL_law_935 : decode cL_law 935 = .ok (.if_icmp .eq 534, 3) := by decide +kernel
theorem dL_law_938 : decode cL_law 938 = .ok (.iconst 0, 1) := by decide +kernel
theorem dL_law_939 : decode cL_law 939 = .ok (.ireturn, 1) := by decide +kernel
theorem dL_law_940 : decode cL_law 940 = .ok (.aload_n 1, 1) := by decide +kernel
theorem dL_law_941 : decode cL_law 941 = .ok (.aload_n 0, 1) := by decide +kernel
theorem dL_law_942 : decode cL_law 942 = .ok (.iload_n 3, 1) := by decide +kernel
theorem dL_law_943 : decode cL_law 943 = .ok (.iconst 1, 1) := by decide +kernel
theorem dL_law_944 : decode cL_law 944 = .ok (.iadd, 1) := by decide +kernel
theorem dL_law_945 : decode cL_law 945 = .ok (.iaload, 1) := by decide +kernel
theorem dL_law_946 : decode cL_law 946 = .ok (.aload_n 0, 1) := by decide +kernel
theorem dL_law_947 : decode cL_law 947 = .ok (.iload_n 3, 1) := by decide +kernel
theorem dL_law_948 : decode cL_law 948 = .ok (.iconst 2, 1) := by decide +kernel
theorem dL_law_949 : decode cL_law 949 = .ok (.iadd, 1) := by decide +kernel
theorem dL_law_950 : decode cL_law 950 = .ok (.iaload, 1) := by decide +kernel
theorem dL_law_951 : decode cL_law 951 = .ok (.invokevirtual 114, 3) := by decide +kernel
theorem dL_law_954 : decode cL_law 954 = .ok (.aload_n 2, 1) := by decide +kernel
theorem dL_law_955 : decode cL_law 955 = .ok (.aload_n 0, 1) := by decide +kernel
theorem dL_law_956 : decode cL_law 956 = .ok (.iload_n 3, 1) := by decide +kernel
theorem dL_law_957 : decode cL_law 957 = .ok (.iconst 1, 1) := by decide +kernel
theorem dL_law_958 : decode cL_law 958 = .ok (.iadd, 1) := by decide +kernel
theorem dL_law_959 : decode cL_law 959 = .ok (.iaload, 1) := by decide +kernel
theorem dL_law_960 : decode cL_law 960 = .ok (.aload_n 0, 1) := by decide +kernel
theorem dL_law_961 : decode cL_law 961 = .ok (.iload_n 3, 1) := by decide +kernel
theorem dL_law_962 : decode cL_law 962 = .ok (.iconst 2, 1) := by decide +kernel
theorem dL_law_963 : decode cL_law 963 = .ok (.iadd, 1) := by decide +kernel
theorem dL_law_964 : decode cL_law 964 = .ok (.iaload, 1) := by decide +kernel
theorem dL_law_965 : decode cL_law 965 = .ok (.invokevirtual 117, 3) := by decide +kernel
theorem dL_law_968 : decode cL_law 968 = .ok (.if_icmp .eq 501, 3) := by decide +kernel
theorem dL_law_971 : decode cL_law 971 = .ok (.iconst 0, 1) := by decide +kernel
theorem dL_law_972 : decode cL_law 972 = .ok (.ireturn, 1) := by decide +kernel
theorem dL_law_973 : decode cL_law 973 = .ok (.aload_n 1, 1) := by decide +kernel
theorem dL_law_974 : decode cL_law 974 = .ok (.aload_n 0, 1) := by decide +kernel
theorem dL_law_975 : decode cL_law 975 = .ok (.iload_n 3, 1) := by decide +kernel
theorem dL_law_976 : decode cL_law 976 = .ok (.iconst 1, 1) := by decide +kernel
theorem dL_law_977 : decode cL_law 977 = .ok (.iadd, 1) := by decide +kernel
theorem dL_law_978 : decode cL_law 978 = .ok (.iaload, 1) := by decide +kernel
theorem dL_law_979 : decode cL_law 979 = .ok (.invokevirtual 118, 3) := by decide +kernel
theorem dL_law_982 : decode cL_law 982 = .ok (.aload_n 2, 1) := by decide +kernel
theorem dL_law_983 : decode cL_law 983 = .ok (.aload_n 0, 1) := by decide +kernel
theorem dL_law_984 : decode cL_law 984 = .ok (.iload_n 3, 1) := by decide +kernel
theorem dL_law_985 : decode cL_law 985 = .ok (.iconst 1, 1) := by decide +kernel
theorem dL_law_986 : decode cL_law 986 = .ok (.iadd, 1) := by decide +kernel
theorem dL_law_987 : decode cL_law 987 = .ok (.iaload, 1) := by decide +kernel
theorem dL_law_988 : decode cL_law 988 = .ok (.invokevirtual 121, 3) := by decide +kernel
theorem dL_law_991 : decode cL_law 991 = .ok (.if_icmp .eq 478, 3) := by decide +kernel
theorem dL_law_994 : decode cL_law 994 = .ok (.iconst 0, 1) := by decide +kernel
theorem dL_law_995 : decode cL_law 995 = .ok (.ireturn, 1) := by decide +kernel
theorem dL_law_996 : decode cL_law 996 = .ok (.aload_n 1, 1) := by decide +kernel
theorem dL_law_997 : decode cL_law 997 = .ok (.aload_n 0, 1) := by decide +kernel
theorem dL_law_998 : decode cL_law 998 = .ok (.iload_n 3, 1) := by decide +kernel
theorem dL_law_999 : decode cL_law 999 = .ok (.iconst 1, 1) := by decide +kernel
theorem dL_law_1000 : decode cL_law 1000 = .ok (.iadd, 1) := by decide +kernel
theorem dL_law_1001 : decode cL_law 1001 = .ok (.iaload, 1) := by decide +kernel
theorem dL_law_1002 : decode cL_law 1002 = .ok (.invokevirtual 122, 3) := by decide +kernel
theorem dL_law_1005 : decode cL_law 1005 = .ok (.aload_n 2, 1) := by decide +kernel
theorem dL_law_1006 : decode cL_law 1006 = .ok (.aload_n 0, 1) := by decide +kernel
theorem dL_law_1007 : decode cL_law 1007 = .ok (.iload_n 3, 1) := by decide +kernel
theorem dL_law_1008 : decode cL_law 1008 = .ok (.iconst 1, 1) := by decide +kernel
theorem dL_law_1009 : decode cL_law 1009 = .ok (.iadd, 1) := by decide +kernel
theorem dL_law_1010 : decode cL_law 1010 = .ok (.iaload, 1) := by decide +kernel
theorem dL_law_1011 : decode cL_law 1011 = .ok (.invokevirtual 125, 3) := by decide +kernel
theorem dL_law_1014 : decode cL_law 1014 = .ok (.if_icmp .eq 455, 3) := by decide +kernel
theorem dL_law_1017 : decode cL_law 1017 = .ok (.iconst 0, 1) := by decide +kernel
theorem dL_law_1018 : decode cL_law 1018 = .ok (.ireturn, 1) := by decide +kernel
theorem dL_law_1019 : decode cL_law 1019 = .ok (.aload_n 1, 1) := by decide +kernel
theorem dL_law_1020 : decode cL_law 1020 = .ok (.aload_n 0, 1) := by decide +kernel
theorem dL_law_1021 : decode cL_law 1021 = .ok (.iload_n 3, 1) := by decide +kernel
theorem dL_law_1022 : decode cL_law 1022 = .ok (.iconst 1, 1) := by decide +kernel
theorem dL_law_1023 : decode cL_law 1023 = .ok (.iadd, 1) := by decide +kernel
theorem dL_law_1024 : decode cL_law 1024 = .ok (.iaload, 1) := by decide +kernel
theorem dL_law_1025 : decode cL_law 1025 = .ok (.invokevirtual 126, 3) := by decide +kernel
theorem dL_law_1028 : decode cL_law 1028 = .ok (.aload_n 2, 1) := by decide +kernel
theorem dL_law_1029 : decode cL_law 1029 = .ok (.aload_n 0, 1) := by decide +kernel
theorem dL_law_1030 : decode cL_law 1030 = .ok (.iload_n 3, 1) := by decide +kernel
theorem dL_law_1031 : decode cL_law 1031 = .ok (.iconst 1, 1) := by decide +kernel
theorem dL_law_1032 : decode cL_law 1032 = .ok (.iadd, 1) := by decide +kernel
theorem dL_law_1033 : decode cL_law 1033 = .ok (.iaload, 1) := by decide +kernel
theorem dL_law_1034 : decode cL_law 1034 = .ok (.invokevirtual 129, 3) := by decide +kernel
theorem dL_law_1037 : decode cL_law 1037 = .ok (.if_icmp .eq 432, 3) := by decide +kernel
theorem dL_law_1040 : decode cL_law 1040 = .ok (.iconst 0, 1) := by decide +kernel
theorem dL_law_1041 : decode cL_law 1041 = .ok (.ireturn, 1) := by decide +kernel
theorem dL_law_1042 : decode cL_law 1042 = .ok (.aload_n 1, 1) := by decide +kernel
theorem dL_law_1043 : decode cL_law 1043 = .ok (.aload_n 0, 1) := by decide +kernel
theorem dL_law_1044 : decode cL_law 1044 = .ok (.iload_n 3, 1) := by decide +kernel
theorem dL_law_1045 : decode cL_law 1045 = .ok (.iconst 1, 1) := by decide +kernel
theorem dL_law_1046 : decode cL_law 1046 = .ok (.iadd, 1) := by decide +kernel
theorem dL_law_1047 : decode cL_law 1047 = .ok (.iaload, 1) := by decide +kernel
theorem dL_law_1048 : decode cL_law 1048 = .ok (.aload_n 0, 1) := by decide +kernel
theorem dL_law_1049 : decode cL_law 1049 = .ok (.iload_n 3, 1) := by decide +kernel
theorem dL_law_1050 : decode cL_law 1050 = .ok (.iconst 2, 1) := by decide +kernel
theorem dL_law_1051 : decode cL_law 1051 = .ok (.iadd, 1) := by decide +kernel
theorem dL_law_1052 : decode cL_law 1052 = .ok (.iaload, 1) := by decide +kernel
theorem dL_law_1053 : decode cL_law 1053 = .ok (.aload_n 0, 1) := by decide +kernel
theorem dL_law_1054 : decode cL_law 1054 = .ok (.iload_n 3, 1) := by decide +kernel
theorem dL_law_1055 : decode cL_law 1055 = .ok (.iconst 3, 1) := by decide +kernel
theorem dL_law_1056 : decode cL_law 1056 = .ok (.iadd, 1) := by decide +kernel
theorem dL_law_1057 : decode cL_law 1057 = .ok (.iaload, 1) := by decide +kernel
theorem dL_law_1058 : decode cL_law 1058 = .ok (.aload_n 0, 1) := by decide +kernel
theorem dL_law_1059 : decode cL_law 1059 = .ok (.iload_n 3, 1) := by decide +kernel
theorem dL_law_1060 : decode cL_law 1060 = .ok (.iconst 4, 1) := by decide +kernel
theorem dL_law_1061 : decode cL_law 1061 = .ok (.iadd, 1) := by decide +kernel
theorem dL_law_1062 : decode cL_law 1062 = .ok (.iaload, 1) := by decide +kernel
theorem dL_law_1063 : decode cL_law 1063 = .ok (.aload_n 0, 1) := by decide +kernel
theorem dL_law_1064 : decode cL_law 1064 = .ok (.iload_n 3, 1) := by decide +kernel
theorem dL_law_1065 : decode cL_law 1065 = .ok (.iconst 5, 1) := by decide +kernel
theorem dL_law_1066 : decode cL_law 1066 = .ok (.iadd, 1) := by decide +kernel
theorem dL_law_1067 : decode cL_law 1067 = .ok (.iaload, 1) := by decide +kernel
theorem dL_law_1068 : decode cL_law 1068 = .ok (.invokevirtual 130, 3) := by decide +kernel
theorem dL_law_1071 : decode cL_law 1071 = .ok (.aload_n 2, 1) := by decide +kernel
theorem dL_law_1072 : decode cL_law 1072 = .ok (.aload_n 0, 1) := by decide +kernel
theorem dL_law_1073 : decode cL_law 1073 = .ok (.iload_n 3, 1) := by decide +kernel
theorem dL_law_1074 : decode cL_law 1074 = .ok (.iconst 1, 1) := by decide +kernel
theorem dL_law_1075 : decode cL_law 1075 = .ok (.iadd, 1) := by decide +kernel
theorem dL_law_1076 : decode cL_law 1076 = .ok (.iaload, 1) := by decide +kernel
theorem dL_law_1077 : decode cL_law 1077 = .ok (.aload_n 0, 1) := by decide +kernel
theorem dL_law_1078 : decode cL_law 1078 = .ok (.iload_n 3, 1) := by decide +kernel
theorem dL_law_1079 : decode cL_law 1079 = .ok (.iconst 2, 1) := by decide +kernel
theorem dL_law_1080 : decode cL_law 1080 = .ok (.iadd, 1) := by decide +kernel
theorem dL_law_1081 : decode cL_law 1081 = .ok (.iaload, 1) := by decide +kernel
theorem dL_law_1082 : decode cL_law 1082 = .ok (.aload_n 0, 1) := by decide +kernel
theorem dL_law_1083 : decode cL_law 1083 = .ok (.iload_n 3, 1) := by decide +kernel
theorem dL_law_1084 : decode cL_law 1084 = .ok (.iconst 3, 1) := by decide +kernel
theorem dL_law_1085 : decode cL_law 1085 = .ok (.iadd, 1) := by decide +kernel
theorem dL_law_1086 : decode cL_law 1086 = .ok (.iaload, 1) := by decide +kernel
theorem dL_law_1087 : decode cL_law 1087 = .ok (.aload_n 0, 1) := by decide +kernel
theorem dL_law_1088 : decode cL_law 1088 = .ok (.iload_n 3, 1) := by decide +kernel
theorem dL_law_1089 : decode cL_law 1089 = .ok (.iconst 4, 1) := by decide +kernel
theorem dL_law_1090 : decode cL_law 1090 = .ok (.iadd, 1) := by decide +kernel
theorem dL_law_1091 : decode cL_law 1091 = .ok (.iaload, 1) := by decide +kernel
theorem dL_law_1092 : decode cL_law 1092 = .ok (.aload_n 0, 1) := by decide +kernel
theorem dL_law_1093 : decode cL_law 1093 = .ok (.iload_n 3, 1) := by decide +kernel
theorem dL_law_1094 : decode cL_law 1094 = .ok (.iconst 5, 1) := by decide +kernel
theorem dL_law_1095 : decode cL_law 1095 = .ok (.iadd, 1) := by decide +kernel
theorem dL_law_1096 : decode cL_law 1096 = .ok (.iaload, 1) := by decide +kernel
theorem dL_law_1097 : decode cL_law 1097 = .ok (.invokevirtual 133, 3) := by decide +kernel
theorem dL_law_1100 : decode cL_law 1100 = .ok (.if_icmp .eq 369, 3) := by decide +kernel
theorem dL_law_1103 : decode cL_law 1103 = .ok (.iconst 0, 1) := by decide +kernel
theorem dL_law_1104 : decode cL_law 1104 = .ok (.ireturn, 1) := by decide +kernel
theorem dL_law_1105 : decode cL_law 1105 = .ok (.aload_n 1, 1) := by decide +kernel
theorem dL_law_1106 : decode cL_law 1106 = .ok (.aload_n 0, 1) := by decide +kernel
theorem dL_law_1107 : decode cL_law 1107 = .ok (.iload_n 3, 1) := by decide +kernel
theorem dL_law_1108 : decode cL_law 1108 = .ok (.iconst 1, 1) := by decide +kernel
theorem dL_law_1109 : decode cL_law 1109 = .ok (.iadd, 1) := by decide +kernel
theorem dL_law_1110 : decode cL_law 1110 = .ok (.iaload, 1) := by decide +kernel
theorem dL_law_1111 : decode cL_law 1111 = .ok (.aload_n 0, 1) := by decide +kernel
theorem dL_law_1112 : decode cL_law 1112 = .ok (.iload_n 3, 1) := by decide +kernel
theorem dL_law_1113 : decode cL_law 1113 = .ok (.iconst 2, 1) := by decide +kernel
theorem dL_law_1114 : decode cL_law 1114 = .ok (.iadd, 1) := by decide +kernel
theorem dL_law_1115 : decode cL_law 1115 = .ok (.iaload, 1) := by decide +kernel
theorem dL_law_1116 : decode cL_law 1116 = .ok (.aload_n 0, 1) := by decide +kernel
theorem dL_law_1117 : decode cL_law 1117 = .ok (.iload_n 3, 1) := by decide +kernel
theorem dL_law_1118 : decode cL_law 1118 = .ok (.iconst 3, 1) := by decide +kernel
theorem dL_law_1119 : decode cL_law 1119 = .ok (.iadd, 1) := by decide +kernel
theorem dL_law_1120 : decode cL_law 1120 = .ok (.iaload, 1) := by decide +kernel
theorem dL_law_1121 : decode cL_law 1121 = .ok (.aload_n 0, 1) := by decide +kernel
theorem dL_law_1122 : decode cL_law 1122 = .ok (.iload_n 3, 1) := by decide +kernel
theorem dL_law_1123 : decode cL_law 1123 = .ok (.iconst 4, 1) := by decide +kernel
theorem dL_law_1124 : decode cL_law 1124 = .ok (.iadd, 1) := by decide +kernel
theorem dL_law_1125 : decode cL_law 1125 = .ok (.iaload, 1) := by decide +kernel
theorem dL_law_1126 : decode cL_law 1126 = .ok (.aload_n 0, 1) := by decide +kernel
theorem dL_law_1127 : decode cL_law 1127 = .ok (.iload_n 3, 1) := by decide +kernel
theorem dL_law_1128 : decode cL_law 1128 = .ok (.iconst 5, 1) := by decide +kernel
theorem dL_law_1129 : decode cL_law 1129 = .ok (.iadd, 1) := by decide +kernel
theorem dL_law_1130 : decode cL_law 1130 = .ok (.iaload, 1) := by decide +kernel
theorem dL_law_1131 : decode cL_law 1131 = .ok (.invokevirtual 134, 3) := by decide +kernel
theorem dL_law_1134 : decode cL_law 1134 = .ok (.aload_n 2, 1) := by decide +kernel
theorem dL_law_1135 : decode cL_law 1135 = .ok (.aload_n 0, 1) := by decide +kernel
theorem dL_law_1136 : decode cL_law 1136 = .ok (.iload_n 3, 1) := by decide +kernel
theorem dL_law_1137 : decode cL_law 1137 = .ok (.iconst 1, 1) := by decide +kernel
theorem dL_law_1138 : decode cL_law 1138 = .ok (.iadd, 1) := by decide +kernel
theorem dL_law_1139 : decode cL_law 1139 = .ok (.iaload, 1) := by decide +kernel
theorem dL_law_1140 : decode cL_law 1140 = .ok (.aload_n 0, 1) := by decide +kernel
theorem dL_law_1141 : decode cL_law 1141 = .ok (.iload_n 3, 1) := by decide +kernel
theorem dL_law_1142 : decode cL_law 1142 = .ok (.iconst 2, 1) := by decide +kernel
theorem dL_law_1143 : decode cL_law 1143 = .ok (.iadd, 1) := by decide +kernel
theorem dL_law_1144 : decode cL_law 1144 = .ok (.iaload, 1) := by decide +kernel
theorem dL_law_1145 : decode cL_law 1145 = .ok (.aload_n 0, 1) := by decide +kernel
theorem dL_law_1146 : decode cL_law 1146 = .ok (.iload_n 3, 1) := by decide +kernel
theorem dL_law_1147 : decode cL_law 1147 = .ok (.iconst 3, 1) := by decide +kernel
theorem dL_law_1148 : decode cL_law 1148 = .ok (.iadd, 1) := by decide +kernel
theorem dL_law_1149 : decode cL_law 1149 = .ok (.iaload, 1) := by decide +kernel
theorem dL_law_1150 : decode cL_law 1150 = .ok (.aload_n 0, 1) := by decide +kernel
theorem dL_law_1151 : decode cL_law 1151 = .ok (.iload_n 3, 1) := by decide +kernel
theorem dL_law_1152 : decode cL_law 1152 = .ok (.iconst 4, 1) := by decide +kernel
theorem dL_law_1153 : decode cL_law 1153 = .ok (.iadd, 1) := by decide +kernel
theorem dL_law_1154 : decode cL_law 1154 = .ok (.iaload, 1) := by decide +kernel
theorem dL_law_1155 : decode cL_law 1155 = .ok (.aload_n 0, 1) := by decide +kernel
theorem dL_law_1156 : decode cL_law 1156 = .ok (.iload_n 3, 1) := by decide +kernel
theorem dL_law_1157 : decode cL_law 1157 = .ok (.iconst 5, 1) := by decide +kernel
theorem dL_law_1158 : decode cL_law 1158 = .ok (.iadd, 1) := by decide +kernel
theorem dL_law_1159 : decode cL_law 1159 = .ok (.iaload, 1) := by decide +kernel
theorem dL_law_1160 : decode cL_law 1160 = .ok (.invokevirtual 137, 3) := by decide +kernel
theorem dL_law_1163 : decode cL_law 1163 = .ok (.if_icmp .eq 306, 3) := by decide +kernel
theorem dL_law_1166 : decode cL_law 1166 = .ok (.iconst 0, 1) := by decide +kernel
theorem dL_law_1167 : decode cL_law 1167 = .ok (.ireturn, 1) := by decide +kernel
theorem dL_law_1168 : decode cL_law 1168 = .ok (.aload_n 1, 1) := by decide +kernel
theorem dL_law_1169 : decode cL_law 1169 = .ok (.aload_n 0, 1) := by decide +kernel
theorem dL_law_1170 : decode cL_law 1170 = .ok (.iload_n 3, 1) := by decide +kernel
theorem dL_law_1171 : decode cL_law 1171 = .ok (.iconst 1, 1) := by decide +kernel
theorem dL_law_1172 : decode cL_law 1172 = .ok (.iadd, 1) := by decide +kernel
theorem dL_law_1173 : decode cL_law 1173 = .ok (.iaload, 1) := by decide +kernel
theorem dL_law_1174 : decode cL_law 1174 = .ok (.aload_n 0, 1) := by decide +kernel
theorem dL_law_1175 : decode cL_law 1175 = .ok (.iload_n 3, 1) := by decide +kernel
theorem dL_law_1176 : decode cL_law 1176 = .ok (.iconst 2, 1) := by decide +kernel
theorem dL_law_1177 : decode cL_law 1177 = .ok (.iadd, 1) := by decide +kernel
theorem dL_law_1178 : decode cL_law 1178 = .ok (.iaload, 1) := by decide +kernel
theorem dL_law_1179 : decode cL_law 1179 = .ok (.aload_n 0, 1) := by decide +kernel
theorem dL_law_1180 : decode cL_law 1180 = .ok (.iload_n 3, 1) := by decide +kernel
theorem dL_law_1181 : decode cL_law 1181 = .ok (.iconst 3, 1) := by decide +kernel
theorem dL_law_1182 : decode cL_law 1182 = .ok (.iadd, 1) := by decide +kernel
theorem dL_law_1183 : decode cL_law 1183 = .ok (.iaload, 1) := by decide +kernel
theorem dL_law_1184 : decode cL_law 1184 = .ok (.aload_n 0, 1) := by decide +kernel
theorem dL_law_1185 : decode cL_law 1185 = .ok (.iload_n 3, 1) := by decide +kernel
theorem dL_law_1186 : decode cL_law 1186 = .ok (.iconst 4, 1) := by decide +kernel
theorem dL_law_1187 : decode cL_law 1187 = .ok (.iadd, 1) := by decide +kernel
theorem dL_law_1188 : decode cL_law 1188 = .ok (.iaload, 1) := by decide +kernel
theorem dL_law_1189 : decode cL_law 1189 = .ok (.aload_n 0, 1) := by decide +kernel
theorem dL_law_1190 : decode cL_law 1190 = .ok (.iload_n 3, 1) := by decide +kernel
theorem dL_law_1191 : decode cL_law 1191 = .ok (.iconst 5, 1) := by decide +kernel
theorem dL_law_1192 : decode cL_law 1192 = .ok (.iadd, 1) := by decide +kernel
theorem dL_law_1193 : decode cL_law 1193 = .ok (.iaload, 1) := by decide +kernel
theorem dL_law_1194 : decode cL_law 1194 = .ok (.invokevirtual 138, 3) := by decide +kernel
theorem dL_law_1197 : decode cL_law 1197 = .ok (.aload_n 2, 1) := by decide +kernel
theorem dL_law_1198 : decode cL_law 1198 = .ok (.aload_n 0, 1) := by decide +kernel
theorem dL_law_1199 : decode cL_law 1199 = .ok (.iload_n 3, 1) := by decide +kernel
theorem dL_law_1200 : decode cL_law 1200 = .ok (.iconst 1, 1) := by decide +kernel
theorem dL_law_1201 : decode cL_law 1201 = .ok (.iadd, 1) := by decide +kernel
theorem dL_law_1202 : decode cL_law 1202 = .ok (.iaload, 1) := by decide +kernel
theorem dL_law_1203 : decode cL_law 1203 = .ok (.aload_n 0, 1) := by decide +kernel
theorem dL_law_1204 : decode cL_law 1204 = .ok (.iload_n 3, 1) := by decide +kernel
theorem dL_law_1205 : decode cL_law 1205 = .ok (.iconst 2, 1) := by decide +kernel
theorem dL_law_1206 : decode cL_law 1206 = .ok (.iadd, 1) := by decide +kernel
theorem dL_law_1207 : decode cL_law 1207 = .ok (.iaload, 1) := by decide +kernel
theorem dL_law_1208 : decode cL_law 1208 = .ok (.aload_n 0, 1) := by decide +kernel
theorem dL_law_1209 : decode cL_law 1209 = .ok (.iload_n 3, 1) := by decide +kernel
theorem dL_law_1210 : decode cL_law 1210 = .ok (.iconst 3, 1) := by decide +kernel
theorem dL_law_1211 : decode cL_law 1211 = .ok (.iadd, 1) := by decide +kernel
theorem dL_law_1212 : decode cL_law 1212 = .ok (.iaload, 1) := by decide +kernel
theorem dL_law_1213 : decode cL_law 1213 = .ok (.aload_n 0, 1) := by decide +kernel
theorem dL_law_1214 : decode cL_law 1214 = .ok (.iload_n 3, 1) := by decide +kernel
theorem dL_law_1215 : decode cL_law 1215 = .ok (.iconst 4, 1) := by decide +kernel
theorem dL_law_1216 : decode cL_law 1216 = .ok (.iadd, 1) := by decide +kernel
theorem dL_law_1217 : decode cL_law 1217 = .ok (.iaload, 1) := by decide +kernel
theorem dL_law_1218 : decode cL_law 1218 = .ok (.aload_n 0, 1) := by decide +kernel
theorem dL_law_1219 : decode cL_law 1219 = .ok (.iload_n 3, 1) := by decide +kernel
theorem dL_law_1220 : decode cL_law 1220 = .ok (.iconst 5, 1) := by decide +kernel
theorem dL_law_1221 : decode cL_law 1221 = .ok (.iadd, 1) := by decide +kernel
theorem dL_law_1222 : decode cL_law 1222 = .ok (.iaload, 1) := by decide +kernel
theorem dL_law_1223 : decode cL_law 1223 = .ok (.invokevirtual 142, 3) := by decide +kernel
theorem dL_law_1226 : decode cL_law 1226 = .ok (.lcmp, 1) := by decide +kernel
theorem dL_law_1227 : decode cL_law 1227 = .ok (.ifCond .eq 242, 3) := by decide +kernel
theorem dL_law_1230 : decode cL_law 1230 = .ok (.iconst 0, 1) := by decide +kernel
theorem dL_law_1231 : decode cL_law 1231 = .ok (.ireturn, 1) := by decide +kernel
theorem dL_law_1232 : decode cL_law 1232 = .ok (.aload_n 1, 1) := by decide +kernel
theorem dL_law_1233 : decode cL_law 1233 = .ok (.aload_n 0, 1) := by decide +kernel
theorem dL_law_1234 : decode cL_law 1234 = .ok (.iload_n 3, 1) := by decide +kernel
theorem dL_law_1235 : decode cL_law 1235 = .ok (.iconst 1, 1) := by decide +kernel
theorem dL_law_1236 : decode cL_law 1236 = .ok (.iadd, 1) := by decide +kernel
theorem dL_law_1237 : decode cL_law 1237 = .ok (.iaload, 1) := by decide +kernel
theorem dL_law_1238 : decode cL_law 1238 = .ok (.aload_n 0, 1) := by decide +kernel
theorem dL_law_1239 : decode cL_law 1239 = .ok (.iload_n 3, 1) := by decide +kernel
theorem dL_law_1240 : decode cL_law 1240 = .ok (.iconst 2, 1) := by decide +kernel
theorem dL_law_1241 : decode cL_law 1241 = .ok (.iadd, 1) := by decide +kernel
theorem dL_law_1242 : decode cL_law 1242 = .ok (.iaload, 1) := by decide +kernel
theorem dL_law_1243 : decode cL_law 1243 = .ok (.aload_n 0, 1) := by decide +kernel
theorem dL_law_1244 : decode cL_law 1244 = .ok (.iload_n 3, 1) := by decide +kernel
theorem dL_law_1245 : decode cL_law 1245 = .ok (.iconst 3, 1) := by decide +kernel
theorem dL_law_1246 : decode cL_law 1246 = .ok (.iadd, 1) := by decide +kernel
theorem dL_law_1247 : decode cL_law 1247 = .ok (.iaload, 1) := by decide +kernel
theorem dL_law_1248 : decode cL_law 1248 = .ok (.invokevirtual 143, 3) := by decide +kernel
theorem dL_law_1251 : decode cL_law 1251 = .ok (.aload_n 2, 1) := by decide +kernel
theorem dL_law_1252 : decode cL_law 1252 = .ok (.aload_n 0, 1) := by decide +kernel
theorem dL_law_1253 : decode cL_law 1253 = .ok (.iload_n 3, 1) := by decide +kernel
theorem dL_law_1254 : decode cL_law 1254 = .ok (.iconst 1, 1) := by decide +kernel
theorem dL_law_1255 : decode cL_law 1255 = .ok (.iadd, 1) := by decide +kernel
theorem dL_law_1256 : decode cL_law 1256 = .ok (.iaload, 1) := by decide +kernel
theorem dL_law_1257 : decode cL_law 1257 = .ok (.aload_n 0, 1) := by decide +kernel
theorem dL_law_1258 : decode cL_law 1258 = .ok (.iload_n 3, 1) := by decide +kernel
theorem dL_law_1259 : decode cL_law 1259 = .ok (.iconst 2, 1) := by decide +kernel
theorem dL_law_1260 : decode cL_law 1260 = .ok (.iadd, 1) := by decide +kernel
theorem dL_law_1261 : decode cL_law 1261 = .ok (.iaload, 1) := by decide +kernel
theorem dL_law_1262 : decode cL_law 1262 = .ok (.aload_n 0, 1) := by decide +kernel
theorem dL_law_1263 : decode cL_law 1263 = .ok (.iload_n 3, 1) := by decide +kernel
theorem dL_law_1264 : decode cL_law 1264 = .ok (.iconst 3, 1) := by decide +kernel
theorem dL_law_1265 : decode cL_law 1265 = .ok (.iadd, 1) := by decide +kernel
theorem dL_law_1266 : decode cL_law 1266 = .ok (.iaload, 1) := by decide +kernel
theorem dL_law_1267 : decode cL_law 1267 = .ok (.invokevirtual 146, 3) := by decide +kernel
theorem dL_law_1270 : decode cL_law 1270 = .ok (.if_icmp .eq 199, 3) := by decide +kernel
theorem dL_law_1273 : decode cL_law 1273 = .ok (.iconst 0, 1) := by decide +kernel
theorem dL_law_1274 : decode cL_law 1274 = .ok (.ireturn, 1) := by decide +kernel
theorem dL_law_1275 : decode cL_law 1275 = .ok (.aload_n 1, 1) := by decide +kernel
theorem dL_law_1276 : decode cL_law 1276 = .ok (.aload_n 0, 1) := by decide +kernel
theorem dL_law_1277 : decode cL_law 1277 = .ok (.iload_n 3, 1) := by decide +kernel
theorem dL_law_1278 : decode cL_law 1278 = .ok (.iconst 1, 1) := by decide +kernel
theorem dL_law_1279 : decode cL_law 1279 = .ok (.iadd, 1) := by decide +kernel
theorem dL_law_1280 : decode cL_law 1280 = .ok (.iaload, 1) := by decide +kernel
theorem dL_law_1281 : decode cL_law 1281 = .ok (.invokevirtual 147, 3) := by decide +kernel
theorem dL_law_1284 : decode cL_law 1284 = .ok (.aload_n 2, 1) := by decide +kernel
theorem dL_law_1285 : decode cL_law 1285 = .ok (.aload_n 0, 1) := by decide +kernel
theorem dL_law_1286 : decode cL_law 1286 = .ok (.iload_n 3, 1) := by decide +kernel
theorem dL_law_1287 : decode cL_law 1287 = .ok (.iconst 1, 1) := by decide +kernel
theorem dL_law_1288 : decode cL_law 1288 = .ok (.iadd, 1) := by decide +kernel
theorem dL_law_1289 : decode cL_law 1289 = .ok (.iaload, 1) := by decide +kernel
theorem dL_law_1290 : decode cL_law 1290 = .ok (.invokevirtual 150, 3) := by decide +kernel
theorem dL_law_1293 : decode cL_law 1293 = .ok (.if_icmp .eq 176, 3) := by decide +kernel
theorem dL_law_1296 : decode cL_law 1296 = .ok (.iconst 0, 1) := by decide +kernel
theorem dL_law_1297 : decode cL_law 1297 = .ok (.ireturn, 1) := by decide +kernel
theorem dL_law_1298 : decode cL_law 1298 = .ok (.aload_n 1, 1) := by decide +kernel
theorem dL_law_1299 : decode cL_law 1299 = .ok (.aload_n 0, 1) := by decide +kernel
theorem dL_law_1300 : decode cL_law 1300 = .ok (.iload_n 3, 1) := by decide +kernel
theorem dL_law_1301 : decode cL_law 1301 = .ok (.iconst 1, 1) := by decide +kernel
theorem dL_law_1302 : decode cL_law 1302 = .ok (.iadd, 1) := by decide +kernel
theorem dL_law_1303 : decode cL_law 1303 = .ok (.iaload, 1) := by decide +kernel
theorem dL_law_1304 : decode cL_law 1304 = .ok (.invokevirtual 151, 3) := by decide +kernel
theorem dL_law_1307 : decode cL_law 1307 = .ok (.aload_n 2, 1) := by decide +kernel
theorem dL_law_1308 : decode cL_law 1308 = .ok (.aload_n 0, 1) := by decide +kernel
theorem dL_law_1309 : decode cL_law 1309 = .ok (.iload_n 3, 1) := by decide +kernel
theorem dL_law_1310 : decode cL_law 1310 = .ok (.iconst 1, 1) := by decide +kernel
theorem dL_law_1311 : decode cL_law 1311 = .ok (.iadd, 1) := by decide +kernel
theorem dL_law_1312 : decode cL_law 1312 = .ok (.iaload, 1) := by decide +kernel
theorem dL_law_1313 : decode cL_law 1313 = .ok (.invokevirtual 154, 3) := by decide +kernel
theorem dL_law_1316 : decode cL_law 1316 = .ok (.if_icmp .eq 153, 3) := by decide +kernel
theorem dL_law_1319 : decode cL_law 1319 = .ok (.iconst 0, 1) := by decide +kernel
theorem dL_law_1320 : decode cL_law 1320 = .ok (.ireturn, 1) := by decide +kernel
theorem dL_law_1321 : decode cL_law 1321 = .ok (.aload_n 1, 1) := by decide +kernel
theorem dL_law_1322 : decode cL_law 1322 = .ok (.aload_n 0, 1) := by decide +kernel
theorem dL_law_1323 : decode cL_law 1323 = .ok (.iload_n 3, 1) := by decide +kernel
theorem dL_law_1324 : decode cL_law 1324 = .ok (.iconst 1, 1) := by decide +kernel
theorem dL_law_1325 : decode cL_law 1325 = .ok (.iadd, 1) := by decide +kernel
theorem dL_law_1326 : decode cL_law 1326 = .ok (.iaload, 1) := by decide +kernel
theorem dL_law_1327 : decode cL_law 1327 = .ok (.invokevirtual 155, 3) := by decide +kernel
theorem dL_law_1330 : decode cL_law 1330 = .ok (.aload_n 2, 1) := by decide +kernel
theorem dL_law_1331 : decode cL_law 1331 = .ok (.aload_n 0, 1) := by decide +kernel
theorem dL_law_1332 : decode cL_law 1332 = .ok (.iload_n 3, 1) := by decide +kernel
theorem dL_law_1333 : decode cL_law 1333 = .ok (.iconst 1, 1) := by decide +kernel
theorem dL_law_1334 : decode cL_law 1334 = .ok (.iadd, 1) := by decide +kernel
theorem dL_law_1335 : decode cL_law 1335 = .ok (.iaload, 1) := by decide +kernel
theorem dL_law_1336 : decode cL_law 1336 = .ok (.invokevirtual 158, 3) := by decide +kernel
theorem dL_law_1339 : decode cL_law 1339 = .ok (.if_icmp .eq 130, 3) := by decide +kernel
theorem dL_law_1342 : decode cL_law 1342 = .ok (.iconst 0, 1) := by decide +kernel
theorem dL_law_1343 : decode cL_law 1343 = .ok (.ireturn, 1) := by decide +kernel
theorem dL_law_1344 : decode cL_law 1344 = .ok (.aload_n 1, 1) := by decide +kernel
theorem dL_law_1345 : decode cL_law 1345 = .ok (.aload_n 0, 1) := by decide +kernel
theorem dL_law_1346 : decode cL_law 1346 = .ok (.iload_n 3, 1) := by decide +kernel
theorem dL_law_1347 : decode cL_law 1347 = .ok (.iconst 1, 1) := by decide +kernel
theorem dL_law_1348 : decode cL_law 1348 = .ok (.iadd, 1) := by decide +kernel
theorem dL_law_1349 : decode cL_law 1349 = .ok (.iaload, 1) := by decide +kernel
theorem dL_law_1350 : decode cL_law 1350 = .ok (.aload_n 0, 1) := by decide +kernel
theorem dL_law_1351 : decode cL_law 1351 = .ok (.iload_n 3, 1) := by decide +kernel
theorem dL_law_1352 : decode cL_law 1352 = .ok (.iconst 2, 1) := by decide +kernel
theorem dL_law_1353 : decode cL_law 1353 = .ok (.iadd, 1) := by decide +kernel
theorem dL_law_1354 : decode cL_law 1354 = .ok (.iaload, 1) := by decide +kernel
theorem dL_law_1355 : decode cL_law 1355 = .ok (.invokevirtual 159, 3) := by decide +kernel
theorem dL_law_1358 : decode cL_law 1358 = .ok (.aload_n 2, 1) := by decide +kernel
theorem dL_law_1359 : decode cL_law 1359 = .ok (.aload_n 0, 1) := by decide +kernel
theorem dL_law_1360 : decode cL_law 1360 = .ok (.iload_n 3, 1) := by decide +kernel
theorem dL_law_1361 : decode cL_law 1361 = .ok (.iconst 1, 1) := by decide +kernel
theorem dL_law_1362 : decode cL_law 1362 = .ok (.iadd, 1) := by decide +kernel
theorem dL_law_1363 : decode cL_law 1363 = .ok (.iaload, 1) := by decide +kernel
theorem dL_law_1364 : decode cL_law 1364 = .ok (.aload_n 0, 1) := by decide +kernel
theorem dL_law_1365 : decode cL_law 1365 = .ok (.iload_n 3, 1) := by decide +kernel
theorem dL_law_1366 : decode cL_law 1366 = .ok (.iconst 2, 1) := by decide +kernel
theorem dL_law_1367 : decode cL_law 1367 = .ok (.iadd, 1) := by decide +kernel
theorem dL_law_1368 : decode cL_law 1368 = .ok (.iaload, 1) := by decide +kernel
theorem dL_law_1369 : decode cL_law 1369 = .ok (.invokevirtual 162, 3) := by decide +kernel
theorem dL_law_1372 : decode cL_law 1372 = .ok (.if_icmp .eq 97, 3) := by decide +kernel
theorem dL_law_1375 : decode cL_law 1375 = .ok (.iconst 0, 1) := by decide +kernel
theorem dL_law_1376 : decode cL_law 1376 = .ok (.ireturn, 1) := by decide +kernel
theorem dL_law_1377 : decode cL_law 1377 = .ok (.aload_n 1, 1) := by decide +kernel
theorem dL_law_1378 : decode cL_law 1378 = .ok (.aload_n 0, 1) := by decide +kernel
theorem dL_law_1379 : decode cL_law 1379 = .ok (.iload_n 3, 1) := by decide +kernel
theorem dL_law_1380 : decode cL_law 1380 = .ok (.iconst 1, 1) := by decide +kernel
theorem dL_law_1381 : decode cL_law 1381 = .ok (.iadd, 1) := by decide +kernel
theorem dL_law_1382 : decode cL_law 1382 = .ok (.iaload, 1) := by decide +kernel
theorem dL_law_1383 : decode cL_law 1383 = .ok (.aload_n 0, 1) := by decide +kernel
theorem dL_law_1384 : decode cL_law 1384 = .ok (.iload_n 3, 1) := by decide +kernel
theorem dL_law_1385 : decode cL_law 1385 = .ok (.iconst 2, 1) := by decide +kernel
theorem dL_law_1386 : decode cL_law 1386 = .ok (.iadd, 1) := by decide +kernel
theorem dL_law_1387 : decode cL_law 1387 = .ok (.iaload, 1) := by decide +kernel
theorem dL_law_1388 : decode cL_law 1388 = .ok (.invokevirtual 163, 3) := by decide +kernel
theorem dL_law_1391 : decode cL_law 1391 = .ok (.aload_n 2, 1) := by decide +kernel
theorem dL_law_1392 : decode cL_law 1392 = .ok (.aload_n 0, 1) := by decide +kernel
theorem dL_law_1393 : decode cL_law 1393 = .ok (.iload_n 3, 1) := by decide +kernel
theorem dL_law_1394 : decode cL_law 1394 = .ok (.iconst 1, 1) := by decide +kernel
theorem dL_law_1395 : decode cL_law 1395 = .ok (.iadd, 1) := by decide +kernel
theorem dL_law_1396 : decode cL_law 1396 = .ok (.iaload, 1) := by decide +kernel
theorem dL_law_1397 : decode cL_law 1397 = .ok (.aload_n 0, 1) := by decide +kernel
theorem dL_law_1398 : decode cL_law 1398 = .ok (.iload_n 3, 1) := by decide +kernel
theorem dL_law_1399 : decode cL_law 1399 = .ok (.iconst 2, 1) := by decide +kernel
theorem dL_law_1400 : decode cL_law 1400 = .ok (.iadd, 1) := by decide +kernel
theorem dL_law_1401 : decode cL_law 1401 = .ok (.iaload, 1) := by decide +kernel
theorem dL_law_1402 : decode cL_law 1402 = .ok (.invokevirtual 166, 3) := by decide +kernel
theorem dL_law_1405 : decode cL_law 1405 = .ok (.if_icmp .eq 64, 3) := by decide +kernel
theorem dL_law_1408 : decode cL_law 1408 = .ok (.iconst 0, 1) := by decide +kernel
theorem dL_law_1409 : decode cL_law 1409 = .ok (.ireturn, 1) := by decide +kernel
theorem dL_law_1410 : decode cL_law 1410 = .ok (.aload_n 1, 1) := by decide +kernel
theorem dL_law_1411 : decode cL_law 1411 = .ok (.aload_n 0, 1) := by decide +kernel
theorem dL_law_1412 : decode cL_law 1412 = .ok (.iload_n 3, 1) := by decide +kernel
theorem dL_law_1413 : decode cL_law 1413 = .ok (.iconst 1, 1) := by decide +kernel
theorem dL_law_1414 : decode cL_law 1414 = .ok (.iadd, 1) := by decide +kernel
theorem dL_law_1415 : decode cL_law 1415 = .ok (.iaload, 1) := by decide +kernel
theorem dL_law_1416 : decode cL_law 1416 = .ok (.invokevirtual 167, 3) := by decide +kernel
theorem dL_law_1419 : decode cL_law 1419 = .ok (.aload_n 2, 1) := by decide +kernel
theorem dL_law_1420 : decode cL_law 1420 = .ok (.aload_n 0, 1) := by decide +kernel
theorem dL_law_1421 : decode cL_law 1421 = .ok (.iload_n 3, 1) := by decide +kernel
theorem dL_law_1422 : decode cL_law 1422 = .ok (.iconst 1, 1) := by decide +kernel
theorem dL_law_1423 : decode cL_law 1423 = .ok (.iadd, 1) := by decide +kernel
theorem dL_law_1424 : decode cL_law 1424 = .ok (.iaload, 1) := by decide +kernel
theorem dL_law_1425 : decode cL_law 1425 = .ok (.invokevirtual 170, 3) := by decide +kernel
theorem dL_law_1428 : decode cL_law 1428 = .ok (.if_icmp .eq 41, 3) := by decide +kernel
theorem dL_law_1431 : decode cL_law 1431 = .ok (.iconst 0, 1) := by decide +kernel
theorem dL_law_1432 : decode cL_law 1432 = .ok (.ireturn, 1) := by decide +kernel
theorem dL_law_1433 : decode cL_law 1433 = .ok (.aload_n 1, 1) := by decide +kernel
theorem dL_law_1434 : decode cL_law 1434 = .ok (.aload_n 0, 1) := by decide +kernel
theorem dL_law_1435 : decode cL_law 1435 = .ok (.iload_n 3, 1) := by decide +kernel
theorem dL_law_1436 : decode cL_law 1436 = .ok (.iconst 1, 1) := by decide +kernel
theorem dL_law_1437 : decode cL_law 1437 = .ok (.iadd, 1) := by decide +kernel
theorem dL_law_1438 : decode cL_law 1438 = .ok (.iaload, 1) := by decide +kernel
theorem dL_law_1439 : decode cL_law 1439 = .ok (.invokevirtual 171, 3) := by decide +kernel
theorem dL_law_1442 : decode cL_law 1442 = .ok (.aload_n 2, 1) := by decide +kernel
theorem dL_law_1443 : decode cL_law 1443 = .ok (.aload_n 0, 1) := by decide +kernel
theorem dL_law_1444 : decode cL_law 1444 = .ok (.iload_n 3, 1) := by decide +kernel
theorem dL_law_1445 : decode cL_law 1445 = .ok (.iconst 1, 1) := by decide +kernel
theorem dL_law_1446 : decode cL_law 1446 = .ok (.iadd, 1) := by decide +kernel
theorem dL_law_1447 : decode cL_law 1447 = .ok (.iaload, 1) := by decide +kernel
theorem dL_law_1448 : decode cL_law 1448 = .ok (.invokevirtual 174, 3) := by decide +kernel
theorem dL_law_1451 : decode cL_law 1451 = .ok (.if_icmp .eq 18, 3) := by decide +kernel
theorem dL_law_1454 : decode cL_law 1454 = .ok (.iconst 0, 1) := by decide +kernel
theorem dL_law_1455 : decode cL_law 1455 = .ok (.ireturn, 1) := by decide +kernel
theorem dL_law_1456 : decode cL_law 1456 = .ok (.aload_n 1, 1) := by decide +kernel
theorem dL_law_1457 : decode cL_law 1457 = .ok (.invokevirtual 175, 3) := by decide +kernel
theorem dL_law_1460 : decode cL_law 1460 = .ok (.aload_n 2, 1) := by decide +kernel
theorem dL_law_1461 : decode cL_law 1461 = .ok (.invokevirtual 178, 3) := by decide +kernel
theorem dL_law_1464 : decode cL_law 1464 = .ok (.if_icmp .eq 5, 3) := by decide +kernel
theorem dL_law_1467 : decode cL_law 1467 = .ok (.iconst 0, 1) := by decide +kernel
theorem dL_law_1468 : decode cL_law 1468 = .ok (.ireturn, 1) := by decide +kernel
theorem dL_law_1469 : decode cL_law 1469 = .ok (.iinc 3 6, 3) := by decide +kernel
theorem dL_law_1472 : decode cL_law 1472 = .ok (.goto (-1454), 3) := by decide +kernel
theorem dL_law_1475 : decode cL_law 1475 = .ok (.iconst 1, 1) := by decide +kernel
theorem dL_law_1476 : decode cL_law 1476 = .ok (.ireturn, 1) := by decide +kernel
