theorem dL_law__937 : decode cL_law_ 937 = .ok (.i2l, 1) := by decide +kernel
theorem dL_law__938 : decode cL_law_ 938 = .ok (.lcmp, 1) := by decide +kernel
theorem dL_law__939 : decode cL_law_ 939 = .ok (.ifCond .eq 5, 3) := by decide +kernel
theorem dL_law__942 : decode cL_law_ 942 = .ok (.iconst 0, 1) := by decide +kernel
theorem dL_law__943 : decode cL_law_ 943 = .ok (.ireturn, 1) := by decide +kernel
theorem dL_law__944 : decode cL_law_ 944 = .ok (.goto 1863, 3) := by decide +kernel
theorem dL_law__947 : decode cL_law_ 947 = .ok (.aload_n 1, 1) := by decide +kernel
theorem dL_law__948 : decode cL_law_ 948 = .ok (.aload_n 0, 1) := by decide +kernel
theorem dL_law__949 : decode cL_law_ 949 = .ok (.iload 4, 2) := by decide +kernel
theorem dL_law__951 : decode cL_law_ 951 = .ok (.iconst 1, 1) := by decide +kernel
theorem dL_law__952 : decode cL_law_ 952 = .ok (.iadd, 1) := by decide +kernel
theorem dL_law__953 : decode cL_law_ 953 = .ok (.iaload, 1) := by decide +kernel
theorem dL_law__954 : decode cL_law_ 954 = .ok (.aload_n 0, 1) := by decide +kernel
theorem dL_law__955 : decode cL_law_ 955 = .ok (.iload 4, 2) := by decide +kernel
theorem dL_law__957 : decode cL_law_ 957 = .ok (.iconst 2, 1) := by decide +kernel
theorem dL_law__958 : decode cL_law_ 958 = .ok (.iadd, 1) := by decide +kernel
theorem dL_law__959 : decode cL_law_ 959 = .ok (.iaload, 1) := by decide +kernel
theorem dL_law__960 : decode cL_law_ 960 = .ok (.aload_n 0, 1) := by decide +kernel
theorem dL_law__961 : decode cL_law_ 961 = .ok (.iload 4, 2) := by decide +kernel
theorem dL_law__963 : decode cL_law_ 963 = .ok (.iconst 3, 1) := by decide +kernel
theorem dL_law__964 : decode cL_law_ 964 = .ok (.iadd, 1) := by decide +kernel
theorem dL_law__965 : decode cL_law_ 965 = .ok (.iaload, 1) := by decide +kernel
theorem dL_law__966 : decode cL_law_ 966 = .ok (.aload_n 0, 1) := by decide +kernel
theorem dL_law__967 : decode cL_law_ 967 = .ok (.iload 4, 2) := by decide +kernel
theorem dL_law__969 : decode cL_law_ 969 = .ok (.iconst 4, 1) := by decide +kernel
theorem dL_law__970 : decode cL_law_ 970 = .ok (.iadd, 1) := by decide +kernel
theorem dL_law__971 : decode cL_law_ 971 = .ok (.iaload, 1) := by decide +kernel
theorem dL_law__972 : decode cL_law_ 972 = .ok (.aload_n 0, 1) := by decide +kernel
theorem dL_law__973 : decode cL_law_ 973 = .ok (.iload 4, 2) := by decide +kernel
theorem dL_law__975 : decode cL_law_ 975 = .ok (.iconst 5, 1) := by decide +kernel
theorem dL_law__976 : decode cL_law_ 976 = .ok (.iadd, 1) := by decide +kernel
theorem dL_law__977 : decode cL_law_ 977 = .ok (.iaload, 1) := by decide +kernel
theorem dL_law__978 : decode cL_law_ 978 = .ok (.aload_n 0, 1) := by decide +kernel
theorem dL_law__979 : decode cL_law_ 979 = .ok (.iload 4, 2) := by decide +kernel
theorem dL_law__981 : decode cL_law_ 981 = .ok (.bipush 6, 2) := by decide +kernel
theorem dL_law__983 : decode cL_law_ 983 = .ok (.iadd, 1) := by decide +kernel
theorem dL_law__984 : decode cL_law_ 984 = .ok (.iaload, 1) := by decide +kernel
theorem dL_law__985 : decode cL_law_ 985 = .ok (.aload_n 0, 1) := by decide +kernel
theorem dL_law__986 : decode cL_law_ 986 = .ok (.iload 4, 2) := by decide +kernel
theorem dL_law__988 : decode cL_law_ 988 = .ok (.bipush 7, 2) := by decide +kernel
theorem dL_law__990 : decode cL_law_ 990 = .ok (.iadd, 1) := by decide +kernel
theorem dL_law__991 : decode cL_law_ 991 = .ok (.iaload, 1) := by decide +kernel
theorem dL_law__992 : decode cL_law_ 992 = .ok (.aload_n 0, 1) := by decide +kernel
theorem dL_law__993 : decode cL_law_ 993 = .ok (.iload 4, 2) := by decide +kernel
theorem dL_law__995 : decode cL_law_ 995 = .ok (.bipush 8, 2) := by decide +kernel
theorem dL_law__997 : decode cL_law_ 997 = .ok (.iadd, 1) := by decide +kernel
theorem dL_law__998 : decode cL_law_ 998 = .ok (.iaload, 1) := by decide +kernel
theorem dL_law__999 : decode cL_law_ 999 = .ok (.aload_n 3, 1) := by decide +kernel
theorem dL_law__1000 : decode cL_law_ 1000 = .ok (.invokestatic 174, 3) := by decide +kernel
theorem dL_law__1003 : decode cL_law_ 1003 = .ok (.istore 5, 2) := by decide +kernel
theorem dL_law__1005 : decode cL_law_ 1005 = .ok (.aload_n 2, 1) := by decide +kernel
theorem dL_law__1006 : decode cL_law_ 1006 = .ok (.aload_n 0, 1) := by decide +kernel
theorem dL_law__1007 : decode cL_law_ 1007 = .ok (.iload 4, 2) := by decide +kernel
theorem dL_law__1009 : decode cL_law_ 1009 = .ok (.iconst 1, 1) := by decide +kernel
theorem dL_law__1010 : decode cL_law_ 1010 = .ok (.iadd, 1) := by decide +kernel
theorem dL_law__1011 : decode cL_law_ 1011 = .ok (.iaload, 1) := by decide +kernel
theorem dL_law__1012 : decode cL_law_ 1012 = .ok (.aload_n 0, 1) := by decide +kernel
theorem dL_law__1013 : decode cL_law_ 1013 = .ok (.iload 4, 2) := by decide +kernel
theorem dL_law__1015 : decode cL_law_ 1015 = .ok (.iconst 2, 1) := by decide +kernel
theorem dL_law__1016 : decode cL_law_ 1016 = .ok (.iadd, 1) := by decide +kernel
theorem dL_law__1017 : decode cL_law_ 1017 = .ok (.iaload, 1) := by decide +kernel
theorem dL_law__1018 : decode cL_law_ 1018 = .ok (.aload_n 0, 1) := by decide +kernel
theorem dL_law__1019 : decode cL_law_ 1019 = .ok (.iload 4, 2) := by decide +kernel
theorem dL_law__1021 : decode cL_law_ 1021 = .ok (.iconst 3, 1) := by decide +kernel
theorem dL_law__1022 : decode cL_law_ 1022 = .ok (.iadd, 1) := by decide +kernel
theorem dL_law__1023 : decode cL_law_ 1023 = .ok (.iaload, 1) := by decide +kernel
theorem dL_law__1024 : decode cL_law_ 1024 = .ok (.aload_n 0, 1) := by decide +kernel
theorem dL_law__1025 : decode cL_law_ 1025 = .ok (.iload 4, 2) := by decide +kernel
theorem dL_law__1027 : decode cL_law_ 1027 = .ok (.iconst 4, 1) := by decide +kernel
theorem dL_law__1028 : decode cL_law_ 1028 = .ok (.iadd, 1) := by decide +kernel
theorem dL_law__1029 : decode cL_law_ 1029 = .ok (.iaload, 1) := by decide +kernel
theorem dL_law__1030 : decode cL_law_ 1030 = .ok (.aload_n 0, 1) := by decide +kernel
theorem dL_law__1031 : decode cL_law_ 1031 = .ok (.iload 4, 2) := by decide +kernel
theorem dL_law__1033 : decode cL_law_ 1033 = .ok (.iconst 5, 1) := by decide +kernel
theorem dL_law__1034 : decode cL_law_ 1034 = .ok (.iadd, 1) := by decide +kernel
theorem dL_law__1035 : decode cL_law_ 1035 = .ok (.iaload, 1) := by decide +kernel
theorem dL_law__1036 : decode cL_law_ 1036 = .ok (.aload_n 0, 1) := by decide +kernel
theorem dL_law__1037 : decode cL_law_ 1037 = .ok (.iload 4, 2) := by decide +kernel
theorem dL_law__1039 : decode cL_law_ 1039 = .ok (.bipush 6, 2) := by decide +kernel
theorem dL_law__1041 : decode cL_law_ 1041 = .ok (.iadd, 1) := by decide +kernel
theorem dL_law__1042 : decode cL_law_ 1042 = .ok (.iaload, 1) := by decide +kernel
theorem dL_law__1043 : decode cL_law_ 1043 = .ok (.aload_n 0, 1) := by decide +kernel
theorem dL_law__1044 : decode cL_law_ 1044 = .ok (.iload 4, 2) := by decide +kernel
theorem dL_law__1046 : decode cL_law_ 1046 = .ok (.bipush 7, 2) := by decide +kernel
theorem dL_law__1048 : decode cL_law_ 1048 = .ok (.iadd, 1) := by decide +kernel
theorem dL_law__1049 : decode cL_law_ 1049 = .ok (.iaload, 1) := by decide +kernel
theorem dL_law__1050 : decode cL_law_ 1050 = .ok (.aload_n 0, 1) := by decide +kernel
theorem dL_law__1051 : decode cL_law_ 1051 = .ok (.iload 4, 2) := by decide +kernel
theorem dL_law__1053 : decode cL_law_ 1053 = .ok (.bipush 8, 2) := by decide +kernel
theorem dL_law__1055 : decode cL_law_ 1055 = .ok (.iadd, 1) := by decide +kernel
theorem dL_law__1056 : decode cL_law_ 1056 = .ok (.iaload, 1) := by decide +kernel
theorem dL_law__1057 : decode cL_law_ 1057 = .ok (.invokevirtual 177, 3) := by decide +kernel
theorem dL_law__1060 : decode cL_law_ 1060 = .ok (.istore 6, 2) := by decide +kernel
theorem dL_law__1062 : decode cL_law_ 1062 = .ok (.aload_n 2, 1) := by decide +kernel
theorem dL_law__1063 : decode cL_law_ 1063 = .ok (.invokevirtual 134, 3) := by decide +kernel
theorem dL_law__1066 : decode cL_law_ 1066 = .ok (.iload 5, 2) := by decide +kernel
theorem dL_law__1068 : decode cL_law_ 1068 = .ok (.if_icmp .eq 5, 3) := by decide +kernel
theorem dL_law__1071 : decode cL_law_ 1071 = .ok (.iconst 0, 1) := by decide +kernel
theorem dL_law__1072 : decode cL_law_ 1072 = .ok (.ireturn, 1) := by decide +kernel
theorem dL_law__1073 : decode cL_law_ 1073 = .ok (.iload 5, 2) := by decide +kernel
theorem dL_law__1075 : decode cL_law_ 1075 = .ok (.ifCond .ne 15, 3) := by decide +kernel
theorem dL_law__1078 : decode cL_law_ 1078 = .ok (.aload_n 3, 1) := by decide +kernel
theorem dL_law__1079 : decode cL_law_ 1079 = .ok (.iconst 0, 1) := by decide +kernel
theorem dL_law__1080 : decode cL_law_ 1080 = .ok (.laload, 1) := by decide +kernel
theorem dL_law__1081 : decode cL_law_ 1081 = .ok (.iload 6, 2) := by decide +kernel
theorem dL_law__1083 : decode cL_law_ 1083 = .ok (.i2l, 1) := by decide +kernel
theorem dL_law__1084 : decode cL_law_ 1084 = .ok (.lcmp, 1) := by decide +kernel
theorem dL_law__1085 : decode cL_law_ 1085 = .ok (.ifCond .eq 5, 3) := by decide +kernel
theorem dL_law__1088 : decode cL_law_ 1088 = .ok (.iconst 0, 1) := by decide +kernel
theorem dL_law__1089 : decode cL_law_ 1089 = .ok (.ireturn, 1) := by decide +kernel
theorem dL_law__1090 : decode cL_law_ 1090 = .ok (.goto 1717, 3) := by decide +kernel
theorem dL_law__1093 : decode cL_law_ 1093 = .ok (.aload_n 1, 1) := by decide +kernel
theorem dL_law__1094 : decode cL_law_ 1094 = .ok (.aload_n 0, 1) := by decide +kernel
theorem dL_law__1095 : decode cL_law_ 1095 = .ok (.iload 4, 2) := by decide +kernel
theorem dL_law__1097 : decode cL_law_ 1097 = .ok (.iconst 1, 1) := by decide +kernel
theorem dL_law__1098 : decode cL_law_ 1098 = .ok (.iadd, 1) := by decide +kernel
theorem dL_law__1099 : decode cL_law_ 1099 = .ok (.iaload, 1) := by decide +kernel
theorem dL_law__1100 : decode cL_law_ 1100 = .ok (.aload_n 0, 1) := by decide +kernel
theorem dL_law__1101 : decode cL_law_ 1101 = .ok (.iload 4, 2) := by decide +kernel
theorem dL_law__1103 : decode cL_law_ 1103 = .ok (.iconst 2, 1) := by decide +kernel
theorem dL_law__1104 : decode cL_law_ 1104 = .ok (.iadd, 1) := by decide +kernel
theorem dL_law__1105 : decode cL_law_ 1105 = .ok (.iaload, 1) := by decide +kernel
theorem dL_law__1106 : decode cL_law_ 1106 = .ok (.aload_n 3, 1) := by decide +kernel
theorem dL_law__1107 : decode cL_law_ 1107 = .ok (.invokestatic 178, 3) := by decide +kernel
theorem dL_law__1110 : decode cL_law_ 1110 = .ok (.istore 5, 2) := by decide +kernel
theorem dL_law__1112 : decode cL_law_ 1112 = .ok (.aload_n 2, 1) := by decide +kernel
theorem dL_law__1113 : decode cL_law_ 1113 = .ok (.aload_n 0, 1) := by decide +kernel
theorem dL_law__1114 : decode cL_law_ 1114 = .ok (.iload 4, 2) := by decide +kernel
theorem dL_law__1116 : decode cL_law_ 1116 = .ok (.iconst 1, 1) := by decide +kernel
theorem dL_law__1117 : decode cL_law_ 1117 = .ok (.iadd, 1) := by decide +kernel
theorem dL_law__1118 : decode cL_law_ 1118 = .ok (.iaload, 1) := by decide +kernel
theorem dL_law__1119 : decode cL_law_ 1119 = .ok (.aload_n 0, 1) := by decide +kernel
theorem dL_law__1120 : decode cL_law_ 1120 = .ok (.iload 4, 2) := by decide +kernel
theorem dL_law__1122 : decode cL_law_ 1122 = .ok (.iconst 2, 1) := by decide +kernel
theorem dL_law__1123 : decode cL_law_ 1123 = .ok (.iadd, 1) := by decide +kernel
theorem dL_law__1124 : decode cL_law_ 1124 = .ok (.iaload, 1) := by decide +kernel
theorem dL_law__1125 : decode cL_law_ 1125 = .ok (.invokevirtual 180, 3) := by decide +kernel
theorem dL_law__1128 : decode cL_law_ 1128 = .ok (.istore 6, 2) := by decide +kernel
theorem dL_law__1130 : decode cL_law_ 1130 = .ok (.aload_n 2, 1) := by decide +kernel
theorem dL_law__1131 : decode cL_law_ 1131 = .ok (.invokevirtual 134, 3) := by decide +kernel
theorem dL_law__1134 : decode cL_law_ 1134 = .ok (.iload 5, 2) := by decide +kernel
theorem dL_law__1136 : decode cL_law_ 1136 = .ok (.if_icmp .eq 5, 3) := by decide +kernel
theorem dL_law__1139 : decode cL_law_ 1139 = .ok (.iconst 0, 1) := by decide +kernel
theorem dL_law__1140 : decode cL_law_ 1140 = .ok (.ireturn, 1) := by decide +kernel
theorem dL_law__1141 : decode cL_law_ 1141 = .ok (.iload 5, 2) := by decide +kernel
theorem dL_law__1143 : decode cL_law_ 1143 = .ok (.ifCond .ne 22, 3) := by decide +kernel
theorem dL_law__1146 : decode cL_law_ 1146 = .ok (.aload_n 3, 1) := by decide +kernel
theorem dL_law__1147 : decode cL_law_ 1147 = .ok (.iconst 0, 1) := by decide +kernel
theorem dL_law__1148 : decode cL_law_ 1148 = .ok (.laload, 1) := by decide +kernel
theorem dL_law__1149 : decode cL_law_ 1149 = .ok (.iload 6, 2) := by decide +kernel
theorem dL_law__1151 : decode cL_law_ 1151 = .ok (.ifCond .eq 7, 3) := by decide +kernel
theorem dL_law__1154 : decode cL_law_ 1154 = .ok (.lconst 1, 1) := by decide +kernel
theorem dL_law__1155 : decode cL_law_ 1155 = .ok (.goto 4, 3) := by decide +kernel
theorem dL_law__1158 : decode cL_law_ 1158 = .ok (.lconst 0, 1) := by decide +kernel
theorem dL_law__1159 : decode cL_law_ 1159 = .ok (.lcmp, 1) := by decide +kernel
theorem dL_law__1160 : decode cL_law_ 1160 = .ok (.ifCond .eq 5, 3) := by decide +kernel
theorem dL_law__1163 : decode cL_law_ 1163 = .ok (.iconst 0, 1) := by decide +kernel
theorem dL_law__1164 : decode cL_law_ 1164 = .ok (.ireturn, 1) := by decide +kernel
theorem dL_law__1165 : decode cL_law_ 1165 = .ok (.goto 1642, 3) := by decide +kernel
theorem dL_law__1168 : decode cL_law_ 1168 = .ok (.aload_n 1, 1) := by decide +kernel
theorem dL_law__1169 : decode cL_law_ 1169 = .ok (.aload_n 0, 1) := by decide +kernel
theorem dL_law__1170 : decode cL_law_ 1170 = .ok (.iload 4, 2) := by decide +kernel
theorem dL_law__1172 : decode cL_law_ 1172 = .ok (.iconst 1, 1) := by decide +kernel
theorem dL_law__1173 : decode cL_law_ 1173 = .ok (.iadd, 1) := by decide +kernel
theorem dL_law__1174 : decode cL_law_ 1174 = .ok (.iaload, 1) := by decide +kernel
theorem dL_law__1175 : decode cL_law_ 1175 = .ok (.aload_n 0, 1) := by decide +kernel
theorem dL_law__1176 : decode cL_law_ 1176 = .ok (.iload 4, 2) := by decide +kernel
theorem dL_law__1178 : decode cL_law_ 1178 = .ok (.iconst 2, 1) := by decide +kernel
theorem dL_law__1179 : decode cL_law_ 1179 = .ok (.iadd, 1) := by decide +kernel
theorem dL_law__1180 : decode cL_law_ 1180 = .ok (.iaload, 1) := by decide +kernel
theorem dL_law__1181 : decode cL_law_ 1181 = .ok (.aload_n 0, 1) := by decide +kernel
theorem dL_law__1182 : decode cL_law_ 1182 = .ok (.iload 4, 2) := by decide +kernel
theorem dL_law__1184 : decode cL_law_ 1184 = .ok (.iconst 3, 1) := by decide +kernel
theorem dL_law__1185 : decode cL_law_ 1185 = .ok (.iadd, 1) := by decide +kernel
theorem dL_law__1186 : decode cL_law_ 1186 = .ok (.iaload, 1) := by decide +kernel
theorem dL_law__1187 : decode cL_law_ 1187 = .ok (.aload_n 3, 1) := by decide +kernel
theorem dL_law__1188 : decode cL_law_ 1188 = .ok (.invokestatic 181, 3) := by decide +kernel
theorem dL_law__1191 : decode cL_law_ 1191 = .ok (.istore 5, 2) := by decide +kernel
theorem dL_law__1193 : decode cL_law_ 1193 = .ok (.aload_n 2, 1) := by decide +kernel
theorem dL_law__1194 : decode cL_law_ 1194 = .ok (.aload_n 0, 1) := by decide +kernel
theorem dL_law__1195 : decode cL_law_ 1195 = .ok (.iload 4, 2) := by decide +kernel
theorem dL_law__1197 : decode cL_law_ 1197 = .ok (.iconst 1, 1) := by decide +kernel
theorem dL_law__1198 : decode cL_law_ 1198 = .ok (.iadd, 1) := by decide +kernel
theorem dL_law__1199 : decode cL_law_ 1199 = .ok (.iaload, 1) := by decide +kernel
theorem dL_law__1200 : decode cL_law_ 1200 = .ok (.aload_n 0, 1) := by decide +kernel
theorem dL_law__1201 : decode cL_law_ 1201 = .ok (.iload 4, 2) := by decide +kernel
theorem dL_law__1203 : decode cL_law_ 1203 = .ok (.iconst 2, 1) := by decide +kernel
theorem dL_law__1204 : decode cL_law_ 1204 = .ok (.iadd, 1) := by decide +kernel
theorem dL_law__1205 : decode cL_law_ 1205 = .ok (.iaload, 1) := by decide +kernel
theorem dL_law__1206 : decode cL_law_ 1206 = .ok (.aload_n 0, 1) := by decide +kernel
theorem dL_law__1207 : decode cL_law_ 1207 = .ok (.iload 4, 2) := by decide +kernel
theorem dL_law__1209 : decode cL_law_ 1209 = .ok (.iconst 3, 1) := by decide +kernel
theorem dL_law__1210 : decode cL_law_ 1210 = .ok (.iadd, 1) := by decide +kernel
theorem dL_law__1211 : decode cL_law_ 1211 = .ok (.iaload, 1) := by decide +kernel
theorem dL_law__1212 : decode cL_law_ 1212 = .ok (.invokevirtual 184, 3) := by decide +kernel
theorem dL_law__1215 : decode cL_law_ 1215 = .ok (.istore 6, 2) := by decide +kernel
theorem dL_law__1217 : decode cL_law_ 1217 = .ok (.aload_n 2, 1) := by decide +kernel
theorem dL_law__1218 : decode cL_law_ 1218 = .ok (.invokevirtual 134, 3) := by decide +kernel
theorem dL_law__1221 : decode cL_law_ 1221 = .ok (.iload 5, 2) := by decide +kernel
theorem dL_law__1223 : decode cL_law_ 1223 = .ok (.if_icmp .eq 5, 3) := by decide +kernel
theorem dL_law__1226 : decode cL_law_ 1226 = .ok (.iconst 0, 1) := by decide +kernel
theorem dL_law__1227 : decode cL_law_ 1227 = .ok (.ireturn, 1) := by decide +kernel
theorem dL_law__1228 : decode cL_law_ 1228 = .ok (.iload 5, 2) := by decide +kernel
theorem dL_law__1230 : decode cL_law_ 1230 = .ok (.ifCond .ne 15, 3) := by decide +kernel
theorem dL_law__1233 : decode cL_law_ 1233 = .ok (.aload_n 3, 1) := by decide +kernel
theorem dL_law__1234 : decode cL_law_ 1234 = .ok (.iconst 0, 1) := by decide +kernel
theorem dL_law__1235 : decode cL_law_ 1235 = .ok (.laload, 1) := by decide +kernel
theorem dL_law__1236 : decode cL_law_ 1236 = .ok (.iload 6, 2) := by decide +kernel
theorem dL_law__1238 : decode cL_law_ 1238 = .ok (.i2l, 1) := by decide +kernel
theorem dL_law__1239 : decode cL_law_ 1239 = .ok (.lcmp, 1) := by decide +kernel
theorem dL_law__1240 : decode cL_law_ 1240 = .ok (.ifCond .eq 5, 3) := by decide +kernel
theorem dL_law__1243 : decode cL_law_ 1243 = .ok (.iconst 0, 1) := by decide +kernel
theorem dL_law__1244 : decode cL_law_ 1244 = .ok (.ireturn, 1) := by decide +kernel
theorem dL_law__1245 : decode cL_law_ 1245 = .ok (.goto 1562, 3) := by decide +kernel
theorem dL_law__1248 : decode cL_law_ 1248 = .ok (.aload_n 1, 1) := by decide +kernel
theorem dL_law__1249 : decode cL_law_ 1249 = .ok (.aload_n 0, 1) := by decide +kernel
theorem dL_law__1250 : decode cL_law_ 1250 = .ok (.iload 4, 2) := by decide +kernel
theorem dL_law__1252 : decode cL_law_ 1252 = .ok (.iconst 1, 1) := by decide +kernel
theorem dL_law__1253 : decode cL_law_ 1253 = .ok (.iadd, 1) := by decide +kernel
theorem dL_law__1254 : decode cL_law_ 1254 = .ok (.iaload, 1) := by decide +kernel
theorem dL_law__1255 : decode cL_law_ 1255 = .ok (.aload_n 0, 1) := by decide +kernel
theorem dL_law__1256 : decode cL_law_ 1256 = .ok (.iload 4, 2) := by decide +kernel
theorem dL_law__1258 : decode cL_law_ 1258 = .ok (.iconst 2, 1) := by decide +kernel
theorem dL_law__1259 : decode cL_law_ 1259 = .ok (.iadd, 1) := by decide +kernel
theorem dL_law__1260 : decode cL_law_ 1260 = .ok (.iaload, 1) := by decide +kernel
theorem dL_law__1261 : decode cL_law_ 1261 = .ok (.aload_n 3, 1) := by decide +kernel
theorem dL_law__1262 : decode cL_law_ 1262 = .ok (.invokestatic 185, 3) := by decide +kernel
theorem dL_law__1265 : decode cL_law_ 1265 = .ok (.istore 5, 2) := by decide +kernel
theorem dL_law__1267 : decode cL_law_ 1267 = .ok (.aload_n 2, 1) := by decide +kernel
theorem dL_law__1268 : decode cL_law_ 1268 = .ok (.aload_n 0, 1) := by decide +kernel
theorem dL_law__1269 : decode cL_law_ 1269 = .ok (.iload 4, 2) := by decide +kernel
theorem dL_law__1271 : decode cL_law_ 1271 = .ok (.iconst 1, 1) := by decide +kernel
theorem dL_law__1272 : decode cL_law_ 1272 = .ok (.iadd, 1) := by decide +kernel
theorem dL_law__1273 : decode cL_law_ 1273 = .ok (.iaload, 1) := by decide +kernel
theorem dL_law__1274 : decode cL_law_ 1274 = .ok (.aload_n 0, 1) := by decide +kernel
theorem dL_law__1275 : decode cL_law_ 1275 = .ok (.iload 4, 2) := by decide +kernel
theorem dL_law__1277 : decode cL_law_ 1277 = .ok (.iconst 2, 1) := by decide +kernel
theorem dL_law__1278 : decode cL_law_ 1278 = .ok (.iadd, 1) := by decide +kernel
theorem dL_law__1279 : decode cL_law_ 1279 = .ok (.iaload, 1) := by decide +kernel
theorem dL_law__1280 : decode cL_law_ 1280 = .ok (.invokevirtual 187, 3) := by decide +kernel
theorem dL_law__1283 : decode cL_law_ 1283 = .ok (.istore 6, 2) := by decide +kernel
theorem dL_law__1285 : decode cL_law_ 1285 = .ok (.aload_n 2, 1) := by decide +kernel
theorem dL_law__1286 : decode cL_law_ 1286 = .ok (.invokevirtual 134, 3) := by decide +kernel
theorem dL_law__1289 : decode cL_law_ 1289 = .ok (.iload 5, 2) := by decide +kernel
theorem dL_law__1291 : decode cL_law_ 1291 = .ok (.if_icmp .eq 5, 3) := by decide +kernel
theorem dL_law__1294 : decode cL_law_ 1294 = .ok (.iconst 0, 1) := by decide +kernel
theorem dL_law__1295 : decode cL_law_ 1295 = .ok (.ireturn, 1) := by decide +kernel
theorem dL_law__1296 : decode cL_law_ 1296 = .ok (.iload 5, 2) := by decide +kernel
theorem dL_law__1298 : decode cL_law_ 1298 = .ok (.ifCond .ne 15, 3) := by decide +kernel
theorem dL_law__1301 : decode cL_law_ 1301 = .ok (.aload_n 3, 1) := by decide +kernel
