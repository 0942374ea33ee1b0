theorem d_law_978 : decode code 978 = .ok (.iconst 1, 1) := by decide +kernel
theorem d_law_979 : decode code 979 = .ok (.iadd, 1) := by decide +kernel
theorem d_law_980 : decode code 980 = .ok (.iaload, 1) := by decide +kernel
theorem d_law_981 : decode code 981 = .ok (.aload_n 0, 1) := by decide +kernel
theorem d_law_982 : decode code 982 = .ok (.iload_n 3, 1) := by decide +kernel
theorem d_law_983 : decode code 983 = .ok (.iconst 2, 1) := by decide +kernel
theorem d_law_984 : decode code 984 = .ok (.iadd, 1) := by decide +kernel
theorem d_law_985 : decode code 985 = .ok (.iaload, 1) := by decide +kernel
theorem d_law_986 : decode code 986 = .ok (.invokevirtual 108, 3) := by decide +kernel
theorem d_law_989 : decode code 989 = .ok (.aload_n 2, 1) := by decide +kernel
theorem d_law_990 : decode code 990 = .ok (.aload_n 0, 1) := by decide +kernel
theorem d_law_991 : decode code 991 = .ok (.iload_n 3, 1) := by decide +kernel
theorem d_law_992 : decode code 992 = .ok (.iconst 1, 1) := by decide +kernel
theorem d_law_993 : decode code 993 = .ok (.iadd, 1) := by decide +kernel
theorem d_law_994 : decode code 994 = .ok (.iaload, 1) := by decide +kernel
theorem d_law_995 : decode code 995 = .ok (.aload_n 0, 1) := by decide +kernel
theorem d_law_996 : decode code 996 = .ok (.iload_n 3, 1) := by decide +kernel
theorem d_law_997 : decode code 997 = .ok (.iconst 2, 1) := by decide +kernel
theorem d_law_998 : decode code 998 = .ok (.iadd, 1) := by decide +kernel
theorem d_law_999 : decode code 999 = .ok (.iaload, 1) := by decide +kernel
theorem d_law_1000 : decode code 1000 = .ok (.invokevirtual 111, 3) := by decide +kernel
theorem d_law_1003 : decode code 1003 = .ok (.if_icmp .eq 510, 3) := by decide +kernel
theorem d_law_1008 : decode code 1008 = .ok (.aload_n 1, 1) := by decide +kernel
theorem d_law_1009 : decode code 1009 = .ok (.aload_n 0, 1) := by decide +kernel
theorem d_law_1010 : decode code 1010 = .ok (.iload_n 3, 1) := by decide +kernel
theorem d_law_1011 : decode code 1011 = .ok (.iconst 1, 1) := by decide +kernel
theorem d_law_1012 : decode code 1012 = .ok (.iadd, 1) := by decide +kernel
theorem d_law_1013 : decode code 1013 = .ok (.iaload, 1) := by decide +kernel
theorem d_law_1014 : decode code 1014 = .ok (.invokevirtual 112, 3) := by decide +kernel
theorem d_law_1017 : decode code 1017 = .ok (.aload_n 2, 1) := by decide +kernel
theorem d_law_1018 : decode code 1018 = .ok (.aload_n 0, 1) := by decide +kernel
theorem d_law_1019 : decode code 1019 = .ok (.iload_n 3, 1) := by decide +kernel
theorem d_law_1020 : decode code 1020 = .ok (.iconst 1, 1) := by decide +kernel
theorem d_law_1021 : decode code 1021 = .ok (.iadd, 1) := by decide +kernel
theorem d_law_1022 : decode code 1022 = .ok (.iaload, 1) := by decide +kernel
theorem d_law_1023 : decode code 1023 = .ok (.invokevirtual 115, 3) := by decide +kernel
theorem d_law_1026 : decode code 1026 = .ok (.if_icmp .eq 487, 3) := by decide +kernel
theorem d_law_1031 : decode code 1031 = .ok (.aload_n 1, 1) := by decide +kernel
theorem d_law_1032 : decode code 1032 = .ok (.aload_n 0, 1) := by decide +kernel
theorem d_law_1033 : decode code 1033 = .ok (.iload_n 3, 1) := by decide +kernel
theorem d_law_1034 : decode code 1034 = .ok (.iconst 1, 1) := by decide +kernel
theorem d_law_1035 : decode code 1035 = .ok (.iadd, 1) := by decide +kernel
theorem d_law_1036 : decode code 1036 = .ok (.iaload, 1) := by decide +kernel
theorem d_law_1037 : decode code 1037 = .ok (.aload_n 0, 1) := by decide +kernel
theorem d_law_1038 : decode code 1038 = .ok (.iload_n 3, 1) := by decide +kernel
theorem d_law_1039 : decode code 1039 = .ok (.iconst 2, 1) := by decide +kernel
theorem d_law_1040 : decode code 1040 = .ok (.iadd, 1) := by decide +kernel
theorem d_law_1041 : decode code 1041 = .ok (.iaload, 1) := by decide +kernel
theorem d_law_1042 : decode code 1042 = .ok (.aload_n 0, 1) := by decide +kernel
theorem d_law_1043 : decode code 1043 = .ok (.iload_n 3, 1) := by decide +kernel
theorem d_law_1044 : decode code 1044 = .ok (.iconst 3, 1) := by decide +kernel
theorem d_law_1045 : decode code 1045 = .ok (.iadd, 1) := by decide +kernel
theorem d_law_1046 : decode code 1046 = .ok (.iaload, 1) := by decide +kernel
theorem d_law_1047 : decode code 1047 = .ok (.aload_n 0, 1) := by decide +kernel
theorem d_law_1048 : decode code 1048 = .ok (.iload_n 3, 1) := by decide +kernel
theorem d_law_1049 : decode code 1049 = .ok (.iconst 4, 1) := by decide +kernel
theorem d_law_1050 : decode code 1050 = .ok (.iadd, 1) := by decide +kernel
theorem d_law_1051 : decode code 1051 = .ok (.iaload, 1) := by decide +kernel
theorem d_law_1052 : decode code 1052 = .ok (.invokevirtual 116, 3) := by decide +kernel
theorem d_law_1055 : decode code 1055 = .ok (.aload_n 2, 1) := by decide +kernel
theorem d_law_1056 : decode code 1056 = .ok (.aload_n 0, 1) := by decide +kernel
theorem d_law_1057 : decode code 1057 = .ok (.iload_n 3, 1) := by decide +kernel
theorem d_law_1058 : decode code 1058 = .ok (.iconst 1, 1) := by decide +kernel
theorem d_law_1059 : decode code 1059 = .ok (.iadd, 1) := by decide +kernel
theorem d_law_1060 : decode code 1060 = .ok (.iaload, 1) := by decide +kernel
theorem d_law_1061 : decode code 1061 = .ok (.aload_n 0, 1) := by decide +kernel
theorem d_law_1062 : decode code 1062 = .ok (.iload_n 3, 1) := by decide +kernel
theorem d_law_1063 : decode code 1063 = .ok (.iconst 2, 1) := by decide +kernel
theorem d_law_1064 : decode code 1064 = .ok (.iadd, 1) := by decide +kernel
theorem d_law_1065 : decode code 1065 = .ok (.iaload, 1) := by decide +kernel
theorem d_law_1066 : decode code 1066 = .ok (.aload_n 0, 1) := by decide +kernel
theorem d_law_1067 : decode code 1067 = .ok (.iload_n 3, 1) := by decide +kernel
theorem d_law_1068 : decode code 1068 = .ok (.iconst 3, 1) := by decide +kernel
theorem d_law_1069 : decode code 1069 = .ok (.iadd, 1) := by decide +kernel
theorem d_law_1070 : decode code 1070 = .ok (.iaload, 1) := by decide +kernel
theorem d_law_1071 : decode code 1071 = .ok (.aload_n 0, 1) := by decide +kernel
theorem d_law_1072 : decode code 1072 = .ok (.iload_n 3, 1) := by decide +kernel
theorem d_law_1073 : decode code 1073 = .ok (.iconst 4, 1) := by decide +kernel
theorem d_law_1074 : decode code 1074 = .ok (.iadd, 1) := by decide +kernel
theorem d_law_1075 : decode code 1075 = .ok (.iaload, 1) := by decide +kernel
theorem d_law_1076 : decode code 1076 = .ok (.invokevirtual 120, 3) := by decide +kernel
theorem d_law_1079 : decode code 1079 = .ok (.lcmp, 1) := by decide +kernel
theorem d_law_1080 : decode code 1080 = .ok (.ifCond .eq 433, 3) := by decide +kernel
theorem d_law_1085 : decode code 1085 = .ok (.aload_n 1, 1) := by decide +kernel
theorem d_law_1086 : decode code 1086 = .ok (.aload_n 0, 1) := by decide +kernel
theorem d_law_1087 : decode code 1087 = .ok (.iload_n 3, 1) := by decide +kernel
theorem d_law_1088 : decode code 1088 = .ok (.iconst 1, 1) := by decide +kernel
theorem d_law_1089 : decode code 1089 = .ok (.iadd, 1) := by decide +kernel
theorem d_law_1090 : decode code 1090 = .ok (.iaload, 1) := by decide +kernel
theorem d_law_1091 : decode code 1091 = .ok (.invokevirtual 121, 3) := by decide +kernel
theorem d_law_1094 : decode code 1094 = .ok (.aload_n 2, 1) := by decide +kernel
theorem d_law_1095 : decode code 1095 = .ok (.aload_n 0, 1) := by decide +kernel
theorem d_law_1096 : decode code 1096 = .ok (.iload_n 3, 1) := by decide +kernel
theorem d_law_1097 : decode code 1097 = .ok (.iconst 1, 1) := by decide +kernel
theorem d_law_1098 : decode code 1098 = .ok (.iadd, 1) := by decide +kernel
theorem d_law_1099 : decode code 1099 = .ok (.iaload, 1) := by decide +kernel
theorem d_law_1100 : decode code 1100 = .ok (.invokevirtual 124, 3) := by decide +kernel
theorem d_law_1103 : decode code 1103 = .ok (.if_icmp .eq 410, 3) := by decide +kernel
theorem d_law_1108 : decode code 1108 = .ok (.aload_n 1, 1) := by decide +kernel
theorem d_law_1109 : decode code 1109 = .ok (.aload_n 0, 1) := by decide +kernel
theorem d_law_1110 : decode code 1110 = .ok (.iload_n 3, 1) := by decide +kernel
theorem d_law_1111 : decode code 1111 = .ok (.iconst 1, 1) := by decide +kernel
theorem d_law_1112 : decode code 1112 = .ok (.iadd, 1) := by decide +kernel
theorem d_law_1113 : decode code 1113 = .ok (.iaload, 1) := by decide +kernel
theorem d_law_1114 : decode code 1114 = .ok (.aload_n 0, 1) := by decide +kernel
theorem d_law_1115 : decode code 1115 = .ok (.iload_n 3, 1) := by decide +kernel
theorem d_law_1116 : decode code 1116 = .ok (.iconst 2, 1) := by decide +kernel
theorem d_law_1117 : decode code 1117 = .ok (.iadd, 1) := by decide +kernel
theorem d_law_1118 : decode code 1118 = .ok (.iaload, 1) := by decide +kernel
theorem d_law_1119 : decode code 1119 = .ok (.invokevirtual 125, 3) := by decide +kernel
theorem d_law_1122 : decode code 1122 = .ok (.aload_n 2, 1) := by decide +kernel
theorem d_law_1123 : decode code 1123 = .ok (.aload_n 0, 1) := by decide +kernel
theorem d_law_1124 : decode code 1124 = .ok (.iload_n 3, 1) := by decide +kernel
theorem d_law_1125 : decode code 1125 = .ok (.iconst 1, 1) := by decide +kernel
theorem d_law_1126 : decode code 1126 = .ok (.iadd, 1) := by decide +kernel
theorem d_law_1127 : decode code 1127 = .ok (.iaload, 1) := by decide +kernel
theorem d_law_1128 : decode code 1128 = .ok (.aload_n 0, 1) := by decide +kernel
theorem d_law_1129 : decode code 1129 = .ok (.iload_n 3, 1) := by decide +kernel
theorem d_law_1130 : decode code 1130 = .ok (.iconst 2, 1) := by decide +kernel
theorem d_law_1131 : decode code 1131 = .ok (.iadd, 1) := by decide +kernel
theorem d_law_1132 : decode code 1132 = .ok (.iaload, 1) := by decide +kernel
theorem d_law_1133 : decode code 1133 = .ok (.invokevirtual 128, 3) := by decide +kernel
theorem d_law_1136 : decode code 1136 = .ok (.if_icmp .eq 377, 3) := by decide +kernel
theorem d_law_1141 : decode code 1141 = .ok (.aload_n 1, 1) := by decide +kernel
theorem d_law_1142 : decode code 1142 = .ok (.invokevirtual 129, 3) := by decide +kernel
theorem d_law_1145 : decode code 1145 = .ok (.aload_n 2, 1) := by decide +kernel
theorem d_law_1146 : decode code 1146 = .ok (.invokevirtual 133, 3) := by decide +kernel
theorem d_law_1149 : decode code 1149 = .ok (.if_icmp .eq 364, 3) := by decide +kernel
theorem d_law_1154 : decode code 1154 = .ok (.aload_n 1, 1) := by decide +kernel
theorem d_law_1155 : decode code 1155 = .ok (.invokevirtual 134, 3) := by decide +kernel
theorem d_law_1158 : decode code 1158 = .ok (.aload_n 2, 1) := by decide +kernel
theorem d_law_1159 : decode code 1159 = .ok (.invokevirtual 137, 3) := by decide +kernel
theorem d_law_1162 : decode code 1162 = .ok (.if_icmp .eq 351, 3) := by decide +kernel
theorem d_law_1167 : decode code 1167 = .ok (.aload_n 1, 1) := by decide +kernel
theorem d_law_1168 : decode code 1168 = .ok (.aload_n 0, 1) := by decide +kernel
theorem d_law_1169 : decode code 1169 = .ok (.iload_n 3, 1) := by decide +kernel
theorem d_law_1170 : decode code 1170 = .ok (.iconst 1, 1) := by decide +kernel
theorem d_law_1171 : decode code 1171 = .ok (.iadd, 1) := by decide +kernel
theorem d_law_1172 : decode code 1172 = .ok (.iaload, 1) := by decide +kernel
theorem d_law_1173 : decode code 1173 = .ok (.aload_n 0, 1) := by decide +kernel
theorem d_law_1174 : decode code 1174 = .ok (.iload_n 3, 1) := by decide +kernel
theorem d_law_1175 : decode code 1175 = .ok (.iconst 2, 1) := by decide +kernel
theorem d_law_1176 : decode code 1176 = .ok (.iadd, 1) := by decide +kernel
theorem d_law_1177 : decode code 1177 = .ok (.iaload, 1) := by decide +kernel
theorem d_law_1178 : decode code 1178 = .ok (.invokevirtual 138, 3) := by decide +kernel
theorem d_law_1181 : decode code 1181 = .ok (.aload_n 2, 1) := by decide +kernel
theorem d_law_1182 : decode code 1182 = .ok (.aload_n 0, 1) := by decide +kernel
theorem d_law_1183 : decode code 1183 = .ok (.iload_n 3, 1) := by decide +kernel
theorem d_law_1184 : decode code 1184 = .ok (.iconst 1, 1) := by decide +kernel
theorem d_law_1185 : decode code 1185 = .ok (.iadd, 1) := by decide +kernel
theorem d_law_1186 : decode code 1186 = .ok (.iaload, 1) := by decide +kernel
theorem d_law_1187 : decode code 1187 = .ok (.aload_n 0, 1) := by decide +kernel
theorem d_law_1188 : decode code 1188 = .ok (.iload_n 3, 1) := by decide +kernel
theorem d_law_1189 : decode code 1189 = .ok (.iconst 2, 1) := by decide +kernel
theorem d_law_1190 : decode code 1190 = .ok (.iadd, 1) := by decide +kernel
theorem d_law_1191 : decode code 1191 = .ok (.iaload, 1) := by decide +kernel
theorem d_law_1192 : decode code 1192 = .ok (.invokevirtual 141, 3) := by decide +kernel
theorem d_law_1195 : decode code 1195 = .ok (.if_icmp .eq 318, 3) := by decide +kernel
theorem d_law_1200 : decode code 1200 = .ok (.aload_n 1, 1) := by decide +kernel
theorem d_law_1201 : decode code 1201 = .ok (.aload_n 0, 1) := by decide +kernel
theorem d_law_1202 : decode code 1202 = .ok (.iload_n 3, 1) := by decide +kernel
theorem d_law_1203 : decode code 1203 = .ok (.iconst 1, 1) := by decide +kernel
theorem d_law_1204 : decode code 1204 = .ok (.iadd, 1) := by decide +kernel
theorem d_law_1205 : decode code 1205 = .ok (.iaload, 1) := by decide +kernel
theorem d_law_1206 : decode code 1206 = .ok (.aload_n 0, 1) := by decide +kernel
theorem d_law_1207 : decode code 1207 = .ok (.iload_n 3, 1) := by decide +kernel
theorem d_law_1208 : decode code 1208 = .ok (.iconst 2, 1) := by decide +kernel
theorem d_law_1209 : decode code 1209 = .ok (.iadd, 1) := by decide +kernel
theorem d_law_1210 : decode code 1210 = .ok (.iaload, 1) := by decide +kernel
theorem d_law_1211 : decode code 1211 = .ok (.invokevirtual 142, 3) := by decide +kernel
theorem d_law_1214 : decode code 1214 = .ok (.aload_n 2, 1) := by decide +kernel
theorem d_law_1215 : decode code 1215 = .ok (.aload_n 0, 1) := by decide +kernel
theorem d_law_1216 : decode code 1216 = .ok (.iload_n 3, 1) := by decide +kernel
theorem d_law_1217 : decode code 1217 = .ok (.iconst 1, 1) := by decide +kernel
theorem d_law_1218 : decode code 1218 = .ok (.iadd, 1) := by decide +kernel
theorem d_law_1219 : decode code 1219 = .ok (.iaload, 1) := by decide +kernel
theorem d_law_1220 : decode code 1220 = .ok (.aload_n 0, 1) := by decide +kernel
theorem d_law_1221 : decode code 1221 = .ok (.iload_n 3, 1) := by decide +kernel
theorem d_law_1222 : decode code 1222 = .ok (.iconst 2, 1) := by decide +kernel
theorem d_law_1223 : decode code 1223 = .ok (.iadd, 1) := by decide +kernel
theorem d_law_1224 : decode code 1224 = .ok (.iaload, 1) := by decide +kernel
theorem d_law_1225 : decode code 1225 = .ok (.invokevirtual 145, 3) := by decide +kernel
theorem d_law_1228 : decode code 1228 = .ok (.if_icmp .eq 285, 3) := by decide +kernel
theorem d_law_1233 : decode code 1233 = .ok (.aload_n 1, 1) := by decide +kernel
theorem d_law_1234 : decode code 1234 = .ok (.aload_n 0, 1) := by decide +kernel
theorem d_law_1235 : decode code 1235 = .ok (.iload_n 3, 1) := by decide +kernel
theorem d_law_1236 : decode code 1236 = .ok (.iconst 1, 1) := by decide +kernel
theorem d_law_1237 : decode code 1237 = .ok (.iadd, 1) := by decide +kernel
theorem d_law_1238 : decode code 1238 = .ok (.iaload, 1) := by decide +kernel
theorem d_law_1239 : decode code 1239 = .ok (.aload_n 0, 1) := by decide +kernel
theorem d_law_1240 : decode code 1240 = .ok (.iload_n 3, 1) := by decide +kernel
theorem d_law_1241 : decode code 1241 = .ok (.iconst 2, 1) := by decide +kernel
theorem d_law_1242 : decode code 1242 = .ok (.iadd, 1) := by decide +kernel
theorem d_law_1243 : decode code 1243 = .ok (.iaload, 1) := by decide +kernel
theorem d_law_1244 : decode code 1244 = .ok (.aload_n 0, 1) := by decide +kernel
theorem d_law_1245 : decode code 1245 = .ok (.iload_n 3, 1) := by decide +kernel
theorem d_law_1246 : decode code 1246 = .ok (.iconst 3, 1) := by decide +kernel
theorem d_law_1247 : decode code 1247 = .ok (.iadd, 1) := by decide +kernel
theorem d_law_1248 : decode code 1248 = .ok (.iaload, 1) := by decide +kernel
theorem d_law_1249 : decode code 1249 = .ok (.invokevirtual 146, 3) := by decide +kernel
theorem d_law_1252 : decode code 1252 = .ok (.aload_n 2, 1) := by decide +kernel
theorem d_law_1253 : decode code 1253 = .ok (.aload_n 0, 1) := by decide +kernel
theorem d_law_1254 : decode code 1254 = .ok (.iload_n 3, 1) := by decide +kernel
theorem d_law_1255 : decode code 1255 = .ok (.iconst 1, 1) := by decide +kernel
theorem d_law_1256 : decode code 1256 = .ok (.iadd, 1) := by decide +kernel
theorem d_law_1257 : decode code 1257 = .ok (.iaload, 1) := by decide +kernel
theorem d_law_1258 : decode code 1258 = .ok (.aload_n 0, 1) := by decide +kernel
theorem d_law_1259 : decode code 1259 = .ok (.iload_n 3, 1) := by decide +kernel
theorem d_law_1260 : decode code 1260 = .ok (.iconst 2, 1) := by decide +kernel
theorem d_law_1261 : decode code 1261 = .ok (.iadd, 1) := by decide +kernel
theorem d_law_1262 : decode code 1262 = .ok (.iaload, 1) := by decide +kernel
theorem d_law_1263 : decode code 1263 = .ok (.aload_n 0, 1) := by decide +kernel
theorem d_law_1264 : decode code 1264 = .ok (.iload_n 3, 1) := by decide +kernel
theorem d_law_1265 : decode code 1265 = .ok (.iconst 3, 1) := by decide +kernel
theorem d_law_1266 : decode code 1266 = .ok (.iadd, 1) := by decide +kernel
theorem d_law_1267 : decode code 1267 = .ok (.iaload, 1) := by decide +kernel
theorem d_law_1268 : decode code 1268 = .ok (.invokevirtual 149, 3) := by decide +kernel
theorem d_law_1271 : decode code 1271 = .ok (.if_icmp .eq 242, 3) := by decide +kernel
theorem d_law_1276 : decode code 1276 = .ok (.aload_n 1, 1) := by decide +kernel
theorem d_law_1277 : decode code 1277 = .ok (.aload_n 0, 1) := by decide +kernel
theorem d_law_1278 : decode code 1278 = .ok (.iload_n 3, 1) := by decide +kernel
theorem d_law_1279 : decode code 1279 = .ok (.iconst 1, 1) := by decide +kernel
theorem d_law_1280 : decode code 1280 = .ok (.iadd, 1) := by decide +kernel
theorem d_law_1281 : decode code 1281 = .ok (.iaload, 1) := by decide +kernel
theorem d_law_1282 : decode code 1282 = .ok (.aload_n 0, 1) := by decide +kernel
theorem d_law_1283 : decode code 1283 = .ok (.iload_n 3, 1) := by decide +kernel
theorem d_law_1284 : decode code 1284 = .ok (.iconst 2, 1) := by decide +kernel
theorem d_law_1285 : decode code 1285 = .ok (.iadd, 1) := by decide +kernel
theorem d_law_1286 : decode code 1286 = .ok (.iaload, 1) := by decide +kernel
theorem d_law_1287 : decode code 1287 = .ok (.aload_n 0, 1) := by decide +kernel
theorem d_law_1288 : decode code 1288 = .ok (.iload_n 3, 1) := by decide +kernel
theorem d_law_1289 : decode code 1289 = .ok (.iconst 3, 1) := by decide +kernel
theorem d_law_1290 : decode code 1290 = .ok (.iadd, 1) := by decide +kernel
theorem d_law_1291 : decode code 1291 = .ok (.iaload, 1) := by decide +kernel
theorem d_law_1292 : decode code 1292 = .ok (.invokevirtual 150, 3) := by decide +kernel
theorem d_law_1295 : decode code 1295 = .ok (.aload_n 2, 1) := by decide +kernel
theorem d_law_1296 : decode code 1296 = .ok (.aload_n 0, 1) := by decide +kernel
theorem d_law_1297 : decode code 1297 = .ok (.iload_n 3, 1) := by decide +kernel
theorem d_law_1298 : decode code 1298 = .ok (.iconst 1, 1) := by decide +kernel
theorem d_law_1299 : decode code 1299 = .ok (.iadd, 1) := by decide +kernel
theorem d_law_1300 : decode code 1300 = .ok (.iaload, 1) := by decide +kernel
theorem d_law_1301 : decode code 1301 = .ok (.aload_n 0, 1) := by decide +kernel
theorem d_law_1302 : decode code 1302 = .ok (.iload_n 3, 1) := by decide +kernel
theorem d_law_1303 : decode code 1303 = .ok (.iconst 2, 1) := by decide +kernel
theorem d_law_1304 : decode code 1304 = .ok (.iadd, 1) := by decide +kernel
theorem d_law_1305 : decode code 1305 = .ok (.iaload, 1) := by decide +kernel
theorem d_law_1306 : decode code 1306 = .ok (.aload_n 0, 1) := by decide +kernel
theorem d_law_1307 : decode code 1307 = .ok (.iload_n 3, 1) := by decide +kernel
theorem d_law_1308 : decode code 1308 = .ok (.iconst 3, 1) := by decide +kernel
theorem d_law_1309 : decode code 1309 = .ok (.iadd, 1) := by decide +kernel
theorem d_law_1310 : decode code 1310 = .ok (.iaload, 1) := by decide +kernel
theorem d_law_1311 : decode code 1311 = .ok (.invokevirtual 153, 3) := by decide +kernel
theorem d_law_1314 : decode code 1314 = .ok (.if_icmp .eq 199, 3) := by decide +kernel
theorem d_law_1319 : decode code 1319 = .ok (.aload_n 1, 1) := by decide +kernel
theorem d_law_1320 : decode code 1320 = .ok (.aload_n 0, 1) := by decide +kernel
theorem d_law_1321 : decode code 1321 = .ok (.iload_n 3, 1) := by decide +kernel
theorem d_law_1322 : decode code 1322 = .ok (.iconst 1, 1) := by decide +kernel
theorem d_law_1323 : decode code 1323 = .ok (.iadd, 1) := by decide +kernel
theorem d_law_1324 : decode code 1324 = .ok (.iaload, 1) := by decide +kernel
theorem d_law_1325 : decode code 1325 = .ok (.aload_n 0, 1) := by decide +kernel
theorem d_law_1326 : decode code 1326 = .ok (.iload_n 3, 1) := by decide +kernel
theorem d_law_1327 : decode code 1327 = .ok (.iconst 2, 1) := by decide +kernel
theorem d_law_1328 : decode code 1328 = .ok (.iadd, 1) := by decide +kernel
theorem d_law_1329 : decode code 1329 = .ok (.iaload, 1) := by decide +kernel
theorem d_law_1330 : decode code 1330 = .ok (.aload_n 0, 1) := by decide +kernel
theorem d_law_1331 : decode code 1331 = .ok (.iload_n 3, 1) := by decide +kernel
theorem d_law_1332 : decode code 1332 = .ok (.iconst 3, 1) := by decide +kernel
theorem d_law_1333 : decode code 1333 = .ok (.iadd, 1) := by decide +kernel
theorem d_law_1334 : decode code 1334 = .ok (.iaload, 1) := by decide +kernel
theorem d_law_1335 : decode code 1335 = .ok (.aload_n 0, 1) := by decide +kernel
theorem d_law_1336 : decode code 1336 = .ok (.iload_n 3, 1) := by decide +kernel
theorem d_law_1337 : decode code 1337 = .ok (.iconst 4, 1) := by decide +kernel
theorem d_law_1338 : decode code 1338 = .ok (.iadd, 1) := by decide +kernel
theorem d_law_1339 : decode code 1339 = .ok (.iaload, 1) := by decide +kernel
theorem d_law_1340 : decode code 1340 = .ok (.aload_n 0, 1) := by decide +kernel
theorem d_law_1341 : decode code 1341 = .ok (.iload_n 3, 1) := by decide +kernel
theorem d_law_1342 : decode code 1342 = .ok (.iconst 5, 1) := by decide +kernel
theorem d_law_1343 : decode code 1343 = .ok (.iadd, 1) := by decide +kernel
theorem d_law_1344 : decode code 1344 = .ok (.iaload, 1) := by decide +kernel
theorem d_law_1345 : decode code 1345 = .ok (.invokevirtual 154, 3) := by decide +kernel
theorem d_law_1348 : decode code 1348 = .ok (.aload_n 2, 1) := by decide +kernel
theorem d_law_1349 : decode code 1349 = .ok (.aload_n 0, 1) := by decide +kernel
theorem d_law_1350 : decode code 1350 = .ok (.iload_n 3, 1) := by decide +kernel
theorem d_law_1351 : decode code 1351 = .ok (.iconst 1, 1) := by decide +kernel
theorem d_law_1352 : decode code 1352 = .ok (.iadd, 1) := by decide +kernel
theorem d_law_1353 : decode code 1353 = .ok (.iaload, 1) := by decide +kernel
theorem d_law_1354 : decode code 1354 = .ok (.aload_n 0, 1) := by decide +kernel
theorem d_law_1355 : decode code 1355 = .ok (.iload_n 3, 1) := by decide +kernel
theorem d_law_1356 : decode code 1356 = .ok (.iconst 2, 1) := by decide +kernel
theorem d_law_1357 : decode code 1357 = .ok (.iadd, 1) := by decide +kernel
theorem d_law_1358 : decode code 1358 = .ok (.iaload, 1) := by decide +kernel
theorem d_law_1359 : decode code 1359 = .ok (.aload_n 0, 1) := by decide +kernel
theorem d_law_1360 : decode code 1360 = .ok (.iload_n 3, 1) := by decide +kernel
theorem d_law_1361 : decode code 1361 = .ok (.iconst 3, 1) := by decide +kernel
theorem d_law_1362 : decode code 1362 = .ok (.iadd, 1) := by decide +kernel
theorem d_law_1363 : decode code 1363 = .ok (.iaload, 1) := by decide +kernel
theorem d_law_1364 : decode code 1364 = .ok (.aload_n 0, 1) := by decide +kernel
theorem d_law_1365 : decode code 1365 = .ok (.iload_n 3, 1) := by decide +kernel
theorem d_law_1366 : decode code 1366 = .ok (.iconst 4, 1) := by decide +kernel
theorem d_law_1367 : decode code 1367 = .ok (.iadd, 1) := by decide +kernel
