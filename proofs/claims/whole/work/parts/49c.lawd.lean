theorem dw_902 : decode code 902 = .ok (.iconst 0, 1) := by decide +kernel
theorem dw_903 : decode code 903 = .ok (.ireturn, 1) := by decide +kernel
theorem dw_904 : decode code 904 = .ok (.goto 863, 3) := by decide +kernel
theorem dw_907 : decode code 907 = .ok (.aload_n 1, 1) := by decide +kernel
theorem dw_908 : decode code 908 = .ok (.aload_n 0, 1) := by decide +kernel
theorem dw_909 : decode code 909 = .ok (.iload 4, 2) := by decide +kernel
theorem dw_911 : decode code 911 = .ok (.iconst 1, 1) := by decide +kernel
theorem dw_912 : decode code 912 = .ok (.iadd, 1) := by decide +kernel
theorem dw_913 : decode code 913 = .ok (.iaload, 1) := by decide +kernel
theorem dw_914 : decode code 914 = .ok (.aload_n 0, 1) := by decide +kernel
theorem dw_915 : decode code 915 = .ok (.iload 4, 2) := by decide +kernel
theorem dw_917 : decode code 917 = .ok (.iconst 2, 1) := by decide +kernel
theorem dw_918 : decode code 918 = .ok (.iadd, 1) := by decide +kernel
theorem dw_919 : decode code 919 = .ok (.iaload, 1) := by decide +kernel
theorem dw_920 : decode code 920 = .ok (.aload_n 3, 1) := by decide +kernel
theorem dw_921 : decode code 921 = .ok (.invokestatic 147, 3) := by decide +kernel
theorem dw_924 : decode code 924 = .ok (.istore 5, 2) := by decide +kernel
theorem dw_926 : decode code 926 = .ok (.aload_n 2, 1) := by decide +kernel
theorem dw_927 : decode code 927 = .ok (.aload_n 0, 1) := by decide +kernel
theorem dw_928 : decode code 928 = .ok (.iload 4, 2) := by decide +kernel
theorem dw_930 : decode code 930 = .ok (.iconst 1, 1) := by decide +kernel
theorem dw_931 : decode code 931 = .ok (.iadd, 1) := by decide +kernel
theorem dw_932 : decode code 932 = .ok (.iaload, 1) := by decide +kernel
theorem dw_933 : decode code 933 = .ok (.aload_n 0, 1) := by decide +kernel
theorem dw_934 : decode code 934 = .ok (.iload 4, 2) := by decide +kernel
theorem dw_936 : decode code 936 = .ok (.iconst 2, 1) := by decide +kernel
theorem dw_937 : decode code 937 = .ok (.iadd, 1) := by decide +kernel
theorem dw_938 : decode code 938 = .ok (.iaload, 1) := by decide +kernel
theorem dw_939 : decode code 939 = .ok (.invokevirtual 149, 3) := by decide +kernel
theorem dw_942 : decode code 942 = .ok (.istore 6, 2) := by decide +kernel
theorem dw_944 : decode code 944 = .ok (.aload_n 2, 1) := by decide +kernel
theorem dw_945 : decode code 945 = .ok (.invokevirtual 106, 3) := by decide +kernel
theorem dw_948 : decode code 948 = .ok (.iload 5, 2) := by decide +kernel
theorem dw_950 : decode code 950 = .ok (.if_icmp .eq 5, 3) := by decide +kernel
theorem dw_953 : decode code 953 = .ok (.iconst 0, 1) := by decide +kernel
theorem dw_954 : decode code 954 = .ok (.ireturn, 1) := by decide +kernel
theorem dw_955 : decode code 955 = .ok (.iload 5, 2) := by decide +kernel
theorem dw_957 : decode code 957 = .ok (.ifCond .ne 22, 3) := by decide +kernel
theorem dw_960 : decode code 960 = .ok (.aload_n 3, 1) := by decide +kernel
theorem dw_961 : decode code 961 = .ok (.iconst 0, 1) := by decide +kernel
theorem dw_962 : decode code 962 = .ok (.laload, 1) := by decide +kernel
theorem dw_963 : decode code 963 = .ok (.iload 6, 2) := by decide +kernel
theorem dw_965 : decode code 965 = .ok (.ifCond .eq 7, 3) := by decide +kernel
theorem dw_968 : decode code 968 = .ok (.lconst 1, 1) := by decide +kernel
theorem dw_969 : decode code 969 = .ok (.goto 4, 3) := by decide +kernel
theorem dw_972 : decode code 972 = .ok (.lconst 0, 1) := by decide +kernel
theorem dw_973 : decode code 973 = .ok (.lcmp, 1) := by decide +kernel
theorem dw_974 : decode code 974 = .ok (.ifCond .eq 5, 3) := by decide +kernel
theorem dw_977 : decode code 977 = .ok (.iconst 0, 1) := by decide +kernel
theorem dw_978 : decode code 978 = .ok (.ireturn, 1) := by decide +kernel
theorem dw_979 : decode code 979 = .ok (.goto 788, 3) := by decide +kernel
theorem dw_982 : decode code 982 = .ok (.aload_n 1, 1) := by decide +kernel
theorem dw_983 : decode code 983 = .ok (.aload_n 0, 1) := by decide +kernel
theorem dw_984 : decode code 984 = .ok (.iload 4, 2) := by decide +kernel
theorem dw_986 : decode code 986 = .ok (.iconst 1, 1) := by decide +kernel
theorem dw_987 : decode code 987 = .ok (.iadd, 1) := by decide +kernel
theorem dw_988 : decode code 988 = .ok (.iaload, 1) := by decide +kernel
theorem dw_989 : decode code 989 = .ok (.aload_n 3, 1) := by decide +kernel
theorem dw_990 : decode code 990 = .ok (.invokestatic 150, 3) := by decide +kernel
theorem dw_993 : decode code 993 = .ok (.istore 5, 2) := by decide +kernel
theorem dw_995 : decode code 995 = .ok (.aload_n 2, 1) := by decide +kernel
theorem dw_996 : decode code 996 = .ok (.aload_n 0, 1) := by decide +kernel
theorem dw_997 : decode code 997 = .ok (.iload 4, 2) := by decide +kernel
theorem dw_999 : decode code 999 = .ok (.iconst 1, 1) := by decide +kernel
theorem dw_1000 : decode code 1000 = .ok (.iadd, 1) := by decide +kernel
theorem dw_1001 : decode code 1001 = .ok (.iaload, 1) := by decide +kernel
theorem dw_1002 : decode code 1002 = .ok (.invokevirtual 152, 3) := by decide +kernel
theorem dw_1005 : decode code 1005 = .ok (.istore 6, 2) := by decide +kernel
theorem dw_1007 : decode code 1007 = .ok (.aload_n 2, 1) := by decide +kernel
theorem dw_1008 : decode code 1008 = .ok (.invokevirtual 106, 3) := by decide +kernel
theorem dw_1011 : decode code 1011 = .ok (.iload 5, 2) := by decide +kernel
theorem dw_1013 : decode code 1013 = .ok (.if_icmp .eq 5, 3) := by decide +kernel
theorem dw_1016 : decode code 1016 = .ok (.iconst 0, 1) := by decide +kernel
theorem dw_1017 : decode code 1017 = .ok (.ireturn, 1) := by decide +kernel
theorem dw_1018 : decode code 1018 = .ok (.iload 5, 2) := by decide +kernel
theorem dw_1020 : decode code 1020 = .ok (.ifCond .ne 15, 3) := by decide +kernel
theorem dw_1023 : decode code 1023 = .ok (.aload_n 3, 1) := by decide +kernel
theorem dw_1024 : decode code 1024 = .ok (.iconst 0, 1) := by decide +kernel
theorem dw_1025 : decode code 1025 = .ok (.laload, 1) := by decide +kernel
theorem dw_1026 : decode code 1026 = .ok (.iload 6, 2) := by decide +kernel
theorem dw_1028 : decode code 1028 = .ok (.i2l, 1) := by decide +kernel
theorem dw_1029 : decode code 1029 = .ok (.lcmp, 1) := by decide +kernel
theorem dw_1030 : decode code 1030 = .ok (.ifCond .eq 5, 3) := by decide +kernel
theorem dw_1033 : decode code 1033 = .ok (.iconst 0, 1) := by decide +kernel
theorem dw_1034 : decode code 1034 = .ok (.ireturn, 1) := by decide +kernel
theorem dw_1035 : decode code 1035 = .ok (.goto 732, 3) := by decide +kernel
theorem dw_1038 : decode code 1038 = .ok (.aload_n 1, 1) := by decide +kernel
theorem dw_1039 : decode code 1039 = .ok (.aload_n 0, 1) := by decide +kernel
theorem dw_1040 : decode code 1040 = .ok (.iload 4, 2) := by decide +kernel
theorem dw_1042 : decode code 1042 = .ok (.iconst 1, 1) := by decide +kernel
theorem dw_1043 : decode code 1043 = .ok (.iadd, 1) := by decide +kernel
theorem dw_1044 : decode code 1044 = .ok (.iaload, 1) := by decide +kernel
theorem dw_1045 : decode code 1045 = .ok (.aload_n 3, 1) := by decide +kernel
theorem dw_1046 : decode code 1046 = .ok (.invokestatic 153, 3) := by decide +kernel
theorem dw_1049 : decode code 1049 = .ok (.istore 5, 2) := by decide +kernel
theorem dw_1051 : decode code 1051 = .ok (.aload_n 2, 1) := by decide +kernel
theorem dw_1052 : decode code 1052 = .ok (.aload_n 0, 1) := by decide +kernel
theorem dw_1053 : decode code 1053 = .ok (.iload 4, 2) := by decide +kernel
theorem dw_1055 : decode code 1055 = .ok (.iconst 1, 1) := by decide +kernel
theorem dw_1056 : decode code 1056 = .ok (.iadd, 1) := by decide +kernel
theorem dw_1057 : decode code 1057 = .ok (.iaload, 1) := by decide +kernel
theorem dw_1058 : decode code 1058 = .ok (.invokevirtual 155, 3) := by decide +kernel
theorem dw_1061 : decode code 1061 = .ok (.istore 6, 2) := by decide +kernel
theorem dw_1063 : decode code 1063 = .ok (.aload_n 2, 1) := by decide +kernel
theorem dw_1064 : decode code 1064 = .ok (.invokevirtual 106, 3) := by decide +kernel
theorem dw_1067 : decode code 1067 = .ok (.iload 5, 2) := by decide +kernel
theorem dw_1069 : decode code 1069 = .ok (.if_icmp .eq 5, 3) := by decide +kernel
theorem dw_1072 : decode code 1072 = .ok (.iconst 0, 1) := by decide +kernel
theorem dw_1073 : decode code 1073 = .ok (.ireturn, 1) := by decide +kernel
theorem dw_1074 : decode code 1074 = .ok (.iload 5, 2) := by decide +kernel
theorem dw_1076 : decode code 1076 = .ok (.ifCond .ne 22, 3) := by decide +kernel
theorem dw_1079 : decode code 1079 = .ok (.aload_n 3, 1) := by decide +kernel
theorem dw_1080 : decode code 1080 = .ok (.iconst 0, 1) := by decide +kernel
theorem dw_1081 : decode code 1081 = .ok (.laload, 1) := by decide +kernel
theorem dw_1082 : decode code 1082 = .ok (.iload 6, 2) := by decide +kernel
theorem dw_1084 : decode code 1084 = .ok (.ifCond .eq 7, 3) := by decide +kernel
theorem dw_1087 : decode code 1087 = .ok (.lconst 1, 1) := by decide +kernel
theorem dw_1088 : decode code 1088 = .ok (.goto 4, 3) := by decide +kernel
theorem dw_1091 : decode code 1091 = .ok (.lconst 0, 1) := by decide +kernel
theorem dw_1092 : decode code 1092 = .ok (.lcmp, 1) := by decide +kernel
theorem dw_1093 : decode code 1093 = .ok (.ifCond .eq 5, 3) := by decide +kernel
theorem dw_1096 : decode code 1096 = .ok (.iconst 0, 1) := by decide +kernel
theorem dw_1097 : decode code 1097 = .ok (.ireturn, 1) := by decide +kernel
theorem dw_1098 : decode code 1098 = .ok (.goto 669, 3) := by decide +kernel
theorem dw_1101 : decode code 1101 = .ok (.aload_n 1, 1) := by decide +kernel
theorem dw_1102 : decode code 1102 = .ok (.aload_n 0, 1) := by decide +kernel
theorem dw_1103 : decode code 1103 = .ok (.iload 4, 2) := by decide +kernel
theorem dw_1105 : decode code 1105 = .ok (.iconst 1, 1) := by decide +kernel
theorem dw_1106 : decode code 1106 = .ok (.iadd, 1) := by decide +kernel
theorem dw_1107 : decode code 1107 = .ok (.iaload, 1) := by decide +kernel
theorem dw_1108 : decode code 1108 = .ok (.aload_n 0, 1) := by decide +kernel
theorem dw_1109 : decode code 1109 = .ok (.iload 4, 2) := by decide +kernel
theorem dw_1111 : decode code 1111 = .ok (.iconst 2, 1) := by decide +kernel
theorem dw_1112 : decode code 1112 = .ok (.iadd, 1) := by decide +kernel
theorem dw_1113 : decode code 1113 = .ok (.iaload, 1) := by decide +kernel
theorem dw_1114 : decode code 1114 = .ok (.aload_n 3, 1) := by decide +kernel
theorem dw_1115 : decode code 1115 = .ok (.invokestatic 156, 3) := by decide +kernel
theorem dw_1118 : decode code 1118 = .ok (.istore 5, 2) := by decide +kernel
theorem dw_1120 : decode code 1120 = .ok (.aload_n 2, 1) := by decide +kernel
theorem dw_1121 : decode code 1121 = .ok (.aload_n 0, 1) := by decide +kernel
theorem dw_1122 : decode code 1122 = .ok (.iload 4, 2) := by decide +kernel
theorem dw_1124 : decode code 1124 = .ok (.iconst 1, 1) := by decide +kernel
theorem dw_1125 : decode code 1125 = .ok (.iadd, 1) := by decide +kernel
theorem dw_1126 : decode code 1126 = .ok (.iaload, 1) := by decide +kernel
theorem dw_1127 : decode code 1127 = .ok (.aload_n 0, 1) := by decide +kernel
theorem dw_1128 : decode code 1128 = .ok (.iload 4, 2) := by decide +kernel
theorem dw_1130 : decode code 1130 = .ok (.iconst 2, 1) := by decide +kernel
theorem dw_1131 : decode code 1131 = .ok (.iadd, 1) := by decide +kernel
theorem dw_1132 : decode code 1132 = .ok (.iaload, 1) := by decide +kernel
theorem dw_1133 : decode code 1133 = .ok (.invokevirtual 158, 3) := by decide +kernel
theorem dw_1136 : decode code 1136 = .ok (.istore 6, 2) := by decide +kernel
theorem dw_1138 : decode code 1138 = .ok (.aload_n 2, 1) := by decide +kernel
theorem dw_1139 : decode code 1139 = .ok (.invokevirtual 106, 3) := by decide +kernel
theorem dw_1142 : decode code 1142 = .ok (.iload 5, 2) := by decide +kernel
theorem dw_1144 : decode code 1144 = .ok (.if_icmp .eq 5, 3) := by decide +kernel
theorem dw_1147 : decode code 1147 = .ok (.iconst 0, 1) := by decide +kernel
theorem dw_1148 : decode code 1148 = .ok (.ireturn, 1) := by decide +kernel
theorem dw_1149 : decode code 1149 = .ok (.iload 5, 2) := by decide +kernel
theorem dw_1151 : decode code 1151 = .ok (.ifCond .ne 15, 3) := by decide +kernel
theorem dw_1154 : decode code 1154 = .ok (.aload_n 3, 1) := by decide +kernel
theorem dw_1155 : decode code 1155 = .ok (.iconst 0, 1) := by decide +kernel
theorem dw_1156 : decode code 1156 = .ok (.laload, 1) := by decide +kernel
theorem dw_1157 : decode code 1157 = .ok (.iload 6, 2) := by decide +kernel
theorem dw_1159 : decode code 1159 = .ok (.i2l, 1) := by decide +kernel
theorem dw_1160 : decode code 1160 = .ok (.lcmp, 1) := by decide +kernel
theorem dw_1161 : decode code 1161 = .ok (.ifCond .eq 5, 3) := by decide +kernel
theorem dw_1164 : decode code 1164 = .ok (.iconst 0, 1) := by decide +kernel
theorem dw_1165 : decode code 1165 = .ok (.ireturn, 1) := by decide +kernel
theorem dw_1166 : decode code 1166 = .ok (.goto 601, 3) := by decide +kernel
theorem dw_1169 : decode code 1169 = .ok (.aload_n 1, 1) := by decide +kernel
theorem dw_1170 : decode code 1170 = .ok (.aload_n 0, 1) := by decide +kernel
theorem dw_1171 : decode code 1171 = .ok (.iload 4, 2) := by decide +kernel
theorem dw_1173 : decode code 1173 = .ok (.iconst 1, 1) := by decide +kernel
theorem dw_1174 : decode code 1174 = .ok (.iadd, 1) := by decide +kernel
theorem dw_1175 : decode code 1175 = .ok (.iaload, 1) := by decide +kernel
theorem dw_1176 : decode code 1176 = .ok (.aload_n 0, 1) := by decide +kernel
theorem dw_1177 : decode code 1177 = .ok (.iload 4, 2) := by decide +kernel
theorem dw_1179 : decode code 1179 = .ok (.iconst 2, 1) := by decide +kernel
theorem dw_1180 : decode code 1180 = .ok (.iadd, 1) := by decide +kernel
theorem dw_1181 : decode code 1181 = .ok (.iaload, 1) := by decide +kernel
theorem dw_1182 : decode code 1182 = .ok (.aload_n 3, 1) := by decide +kernel
theorem dw_1183 : decode code 1183 = .ok (.invokestatic 159, 3) := by decide +kernel
theorem dw_1186 : decode code 1186 = .ok (.istore 5, 2) := by decide +kernel
theorem dw_1188 : decode code 1188 = .ok (.aload_n 2, 1) := by decide +kernel
theorem dw_1189 : decode code 1189 = .ok (.aload_n 0, 1) := by decide +kernel
theorem dw_1190 : decode code 1190 = .ok (.iload 4, 2) := by decide +kernel
theorem dw_1192 : decode code 1192 = .ok (.iconst 1, 1) := by decide +kernel
theorem dw_1193 : decode code 1193 = .ok (.iadd, 1) := by decide +kernel
theorem dw_1194 : decode code 1194 = .ok (.iaload, 1) := by decide +kernel
theorem dw_1195 : decode code 1195 = .ok (.aload_n 0, 1) := by decide +kernel
theorem dw_1196 : decode code 1196 = .ok (.iload 4, 2) := by decide +kernel
theorem dw_1198 : decode code 1198 = .ok (.iconst 2, 1) := by decide +kernel
theorem dw_1199 : decode code 1199 = .ok (.iadd, 1) := by decide +kernel
theorem dw_1200 : decode code 1200 = .ok (.iaload, 1) := by decide +kernel
theorem dw_1201 : decode code 1201 = .ok (.invokevirtual 161, 3) := by decide +kernel
theorem dw_1204 : decode code 1204 = .ok (.istore 6, 2) := by decide +kernel
theorem dw_1206 : decode code 1206 = .ok (.aload_n 2, 1) := by decide +kernel
theorem dw_1207 : decode code 1207 = .ok (.invokevirtual 106, 3) := by decide +kernel
theorem dw_1210 : decode code 1210 = .ok (.iload 5, 2) := by decide +kernel
theorem dw_1212 : decode code 1212 = .ok (.if_icmp .eq 5, 3) := by decide +kernel
theorem dw_1215 : decode code 1215 = .ok (.iconst 0, 1) := by decide +kernel
theorem dw_1216 : decode code 1216 = .ok (.ireturn, 1) := by decide +kernel
theorem dw_1217 : decode code 1217 = .ok (.iload 5, 2) := by decide +kernel
theorem dw_1219 : decode code 1219 = .ok (.ifCond .ne 22, 3) := by decide +kernel
theorem dw_1222 : decode code 1222 = .ok (.aload_n 3, 1) := by decide +kernel
theorem dw_1223 : decode code 1223 = .ok (.iconst 0, 1) := by decide +kernel
theorem dw_1224 : decode code 1224 = .ok (.laload, 1) := by decide +kernel
theorem dw_1225 : decode code 1225 = .ok (.iload 6, 2) := by decide +kernel
theorem dw_1227 : decode code 1227 = .ok (.ifCond .eq 7, 3) := by decide +kernel
theorem dw_1230 : decode code 1230 = .ok (.lconst 1, 1) := by decide +kernel
theorem dw_1231 : decode code 1231 = .ok (.goto 4, 3) := by decide +kernel
theorem dw_1234 : decode code 1234 = .ok (.lconst 0, 1) := by decide +kernel
theorem dw_1235 : decode code 1235 = .ok (.lcmp, 1) := by decide +kernel
theorem dw_1236 : decode code 1236 = .ok (.ifCond .eq 5, 3) := by decide +kernel
theorem dw_1239 : decode code 1239 = .ok (.iconst 0, 1) := by decide +kernel
theorem dw_1240 : decode code 1240 = .ok (.ireturn, 1) := by decide +kernel
theorem dw_1241 : decode code 1241 = .ok (.goto 526, 3) := by decide +kernel
theorem dw_1244 : decode code 1244 = .ok (.aload_n 1, 1) := by decide +kernel
theorem dw_1245 : decode code 1245 = .ok (.aload_n 0, 1) := by decide +kernel
theorem dw_1246 : decode code 1246 = .ok (.iload 4, 2) := by decide +kernel
theorem dw_1248 : decode code 1248 = .ok (.iconst 1, 1) := by decide +kernel
theorem dw_1249 : decode code 1249 = .ok (.iadd, 1) := by decide +kernel
