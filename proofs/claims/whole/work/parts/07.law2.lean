theorem d_L_law_1008 : decode code 1008 = .ok (.iadd, 1) := by decide +kernel
theorem d_L_law_1009 : decode code 1009 = .ok (.iaload, 1) := by decide +kernel
theorem d_L_law_1010 : decode code 1010 = .ok (.aload_n 0, 1) := by decide +kernel
theorem d_L_law_1011 : decode code 1011 = .ok (.iload 4, 2) := by decide +kernel
theorem d_L_law_1013 : decode code 1013 = .ok (.iconst 2, 1) := by decide +kernel
theorem d_L_law_1014 : decode code 1014 = .ok (.iadd, 1) := by decide +kernel
theorem d_L_law_1015 : decode code 1015 = .ok (.iaload, 1) := by decide +kernel
theorem d_L_law_1016 : decode code 1016 = .ok (.aload_n 3, 1) := by decide +kernel
theorem d_L_law_1017 : decode code 1017 = .ok (.invokestatic 131, 3) := by decide +kernel
theorem d_L_law_1020 : decode code 1020 = .ok (.istore 5, 2) := by decide +kernel
theorem d_L_law_1022 : decode code 1022 = .ok (.aload_n 2, 1) := by decide +kernel
theorem d_L_law_1023 : decode code 1023 = .ok (.aload_n 0, 1) := by decide +kernel
theorem d_L_law_1024 : decode code 1024 = .ok (.iload 4, 2) := by decide +kernel
theorem d_L_law_1026 : decode code 1026 = .ok (.iconst 1, 1) := by decide +kernel
theorem d_L_law_1027 : decode code 1027 = .ok (.iadd, 1) := by decide +kernel
theorem d_L_law_1028 : decode code 1028 = .ok (.iaload, 1) := by decide +kernel
theorem d_L_law_1029 : decode code 1029 = .ok (.aload_n 0, 1) := by decide +kernel
theorem d_L_law_1030 : decode code 1030 = .ok (.iload 4, 2) := by decide +kernel
theorem d_L_law_1032 : decode code 1032 = .ok (.iconst 2, 1) := by decide +kernel
theorem d_L_law_1033 : decode code 1033 = .ok (.iadd, 1) := by decide +kernel
theorem d_L_law_1034 : decode code 1034 = .ok (.iaload, 1) := by decide +kernel
theorem d_L_law_1035 : decode code 1035 = .ok (.invokevirtual 133, 3) := by decide +kernel
theorem d_L_law_1038 : decode code 1038 = .ok (.istore 6, 2) := by decide +kernel
theorem d_L_law_1040 : decode code 1040 = .ok (.aload_n 2, 1) := by decide +kernel
theorem d_L_law_1041 : decode code 1041 = .ok (.invokevirtual 86, 3) := by decide +kernel
theorem d_L_law_1044 : decode code 1044 = .ok (.iload 5, 2) := by decide +kernel
theorem d_L_law_1046 : decode code 1046 = .ok (.if_icmp .eq 5, 3) := by decide +kernel
theorem d_L_law_1049 : decode code 1049 = .ok (.iconst 0, 1) := by decide +kernel
theorem d_L_law_1050 : decode code 1050 = .ok (.ireturn, 1) := by decide +kernel
theorem d_L_law_1051 : decode code 1051 = .ok (.iload 5, 2) := by decide +kernel
theorem d_L_law_1053 : decode code 1053 = .ok (.ifCond .ne 22, 3) := by decide +kernel
theorem d_L_law_1056 : decode code 1056 = .ok (.aload_n 3, 1) := by decide +kernel
theorem d_L_law_1057 : decode code 1057 = .ok (.iconst 0, 1) := by decide +kernel
theorem d_L_law_1058 : decode code 1058 = .ok (.laload, 1) := by decide +kernel
theorem d_L_law_1059 : decode code 1059 = .ok (.iload 6, 2) := by decide +kernel
theorem d_L_law_1061 : decode code 1061 = .ok (.ifCond .eq 7, 3) := by decide +kernel
theorem d_L_law_1064 : decode code 1064 = .ok (.lconst 1, 1) := by decide +kernel
theorem d_L_law_1065 : decode code 1065 = .ok (.goto 4, 3) := by decide +kernel
theorem d_L_law_1068 : decode code 1068 = .ok (.lconst 0, 1) := by decide +kernel
theorem d_L_law_1069 : decode code 1069 = .ok (.lcmp, 1) := by decide +kernel
theorem d_L_law_1070 : decode code 1070 = .ok (.ifCond .eq 5, 3) := by decide +kernel
theorem d_L_law_1073 : decode code 1073 = .ok (.iconst 0, 1) := by decide +kernel
theorem d_L_law_1074 : decode code 1074 = .ok (.ireturn, 1) := by decide +kernel
theorem d_L_law_1075 : decode code 1075 = .ok (.goto 343, 3) := by decide +kernel
theorem d_L_law_1078 : decode code 1078 = .ok (.aload_n 1, 1) := by decide +kernel
theorem d_L_law_1079 : decode code 1079 = .ok (.aload_n 0, 1) := by decide +kernel
theorem d_L_law_1080 : decode code 1080 = .ok (.iload 4, 2) := by decide +kernel
theorem d_L_law_1082 : decode code 1082 = .ok (.iconst 1, 1) := by decide +kernel
theorem d_L_law_1083 : decode code 1083 = .ok (.iadd, 1) := by decide +kernel
theorem d_L_law_1084 : decode code 1084 = .ok (.iaload, 1) := by decide +kernel
theorem d_L_law_1085 : decode code 1085 = .ok (.aload_n 0, 1) := by decide +kernel
theorem d_L_law_1086 : decode code 1086 = .ok (.iload 4, 2) := by decide +kernel
theorem d_L_law_1088 : decode code 1088 = .ok (.iconst 2, 1) := by decide +kernel
theorem d_L_law_1089 : decode code 1089 = .ok (.iadd, 1) := by decide +kernel
theorem d_L_law_1090 : decode code 1090 = .ok (.iaload, 1) := by decide +kernel
theorem d_L_law_1091 : decode code 1091 = .ok (.aload_n 0, 1) := by decide +kernel
theorem d_L_law_1092 : decode code 1092 = .ok (.iload 4, 2) := by decide +kernel
theorem d_L_law_1094 : decode code 1094 = .ok (.iconst 3, 1) := by decide +kernel
theorem d_L_law_1095 : decode code 1095 = .ok (.iadd, 1) := by decide +kernel
theorem d_L_law_1096 : decode code 1096 = .ok (.iaload, 1) := by decide +kernel
theorem d_L_law_1097 : decode code 1097 = .ok (.aload_n 3, 1) := by decide +kernel
theorem d_L_law_1098 : decode code 1098 = .ok (.invokestatic 134, 3) := by decide +kernel
theorem d_L_law_1101 : decode code 1101 = .ok (.istore 5, 2) := by decide +kernel
theorem d_L_law_1103 : decode code 1103 = .ok (.aload_n 2, 1) := by decide +kernel
theorem d_L_law_1104 : decode code 1104 = .ok (.aload_n 0, 1) := by decide +kernel
theorem d_L_law_1105 : decode code 1105 = .ok (.iload 4, 2) := by decide +kernel
theorem d_L_law_1107 : decode code 1107 = .ok (.iconst 1, 1) := by decide +kernel
theorem d_L_law_1108 : decode code 1108 = .ok (.iadd, 1) := by decide +kernel
theorem d_L_law_1109 : decode code 1109 = .ok (.iaload, 1) := by decide +kernel
theorem d_L_law_1110 : decode code 1110 = .ok (.aload_n 0, 1) := by decide +kernel
theorem d_L_law_1111 : decode code 1111 = .ok (.iload 4, 2) := by decide +kernel
theorem d_L_law_1113 : decode code 1113 = .ok (.iconst 2, 1) := by decide +kernel
theorem d_L_law_1114 : decode code 1114 = .ok (.iadd, 1) := by decide +kernel
theorem d_L_law_1115 : decode code 1115 = .ok (.iaload, 1) := by decide +kernel
theorem d_L_law_1116 : decode code 1116 = .ok (.aload_n 0, 1) := by decide +kernel
theorem d_L_law_1117 : decode code 1117 = .ok (.iload 4, 2) := by decide +kernel
theorem d_L_law_1119 : decode code 1119 = .ok (.iconst 3, 1) := by decide +kernel
theorem d_L_law_1120 : decode code 1120 = .ok (.iadd, 1) := by decide +kernel
theorem d_L_law_1121 : decode code 1121 = .ok (.iaload, 1) := by decide +kernel
theorem d_L_law_1122 : decode code 1122 = .ok (.invokevirtual 136, 3) := by decide +kernel
theorem d_L_law_1125 : decode code 1125 = .ok (.istore 6, 2) := by decide +kernel
theorem d_L_law_1127 : decode code 1127 = .ok (.aload_n 2, 1) := by decide +kernel
theorem d_L_law_1128 : decode code 1128 = .ok (.invokevirtual 86, 3) := by decide +kernel
theorem d_L_law_1131 : decode code 1131 = .ok (.iload 5, 2) := by decide +kernel
theorem d_L_law_1133 : decode code 1133 = .ok (.if_icmp .eq 5, 3) := by decide +kernel
theorem d_L_law_1136 : decode code 1136 = .ok (.iconst 0, 1) := by decide +kernel
theorem d_L_law_1137 : decode code 1137 = .ok (.ireturn, 1) := by decide +kernel
theorem d_L_law_1138 : decode code 1138 = .ok (.iload 5, 2) := by decide +kernel
theorem d_L_law_1140 : decode code 1140 = .ok (.ifCond .ne 15, 3) := by decide +kernel
theorem d_L_law_1143 : decode code 1143 = .ok (.aload_n 3, 1) := by decide +kernel
theorem d_L_law_1144 : decode code 1144 = .ok (.iconst 0, 1) := by decide +kernel
theorem d_L_law_1145 : decode code 1145 = .ok (.laload, 1) := by decide +kernel
theorem d_L_law_1146 : decode code 1146 = .ok (.iload 6, 2) := by decide +kernel
theorem d_L_law_1148 : decode code 1148 = .ok (.i2l, 1) := by decide +kernel
theorem d_L_law_1149 : decode code 1149 = .ok (.lcmp, 1) := by decide +kernel
theorem d_L_law_1150 : decode code 1150 = .ok (.ifCond .eq 5, 3) := by decide +kernel
theorem d_L_law_1153 : decode code 1153 = .ok (.iconst 0, 1) := by decide +kernel
theorem d_L_law_1154 : decode code 1154 = .ok (.ireturn, 1) := by decide +kernel
theorem d_L_law_1155 : decode code 1155 = .ok (.goto 263, 3) := by decide +kernel
theorem d_L_law_1158 : decode code 1158 = .ok (.aload_n 1, 1) := by decide +kernel
theorem d_L_law_1159 : decode code 1159 = .ok (.aload_n 0, 1) := by decide +kernel
theorem d_L_law_1160 : decode code 1160 = .ok (.iload 4, 2) := by decide +kernel
theorem d_L_law_1162 : decode code 1162 = .ok (.iconst 1, 1) := by decide +kernel
theorem d_L_law_1163 : decode code 1163 = .ok (.iadd, 1) := by decide +kernel
theorem d_L_law_1164 : decode code 1164 = .ok (.iaload, 1) := by decide +kernel
theorem d_L_law_1165 : decode code 1165 = .ok (.aload_n 0, 1) := by decide +kernel
theorem d_L_law_1166 : decode code 1166 = .ok (.iload 4, 2) := by decide +kernel
theorem d_L_law_1168 : decode code 1168 = .ok (.iconst 2, 1) := by decide +kernel
theorem d_L_law_1169 : decode code 1169 = .ok (.iadd, 1) := by decide +kernel
theorem d_L_law_1170 : decode code 1170 = .ok (.iaload, 1) := by decide +kernel
theorem d_L_law_1171 : decode code 1171 = .ok (.aload_n 3, 1) := by decide +kernel
theorem d_L_law_1172 : decode code 1172 = .ok (.invokestatic 137, 3) := by decide +kernel
theorem d_L_law_1175 : decode code 1175 = .ok (.istore 5, 2) := by decide +kernel
theorem d_L_law_1177 : decode code 1177 = .ok (.aload_n 2, 1) := by decide +kernel
theorem d_L_law_1178 : decode code 1178 = .ok (.aload_n 0, 1) := by decide +kernel
theorem d_L_law_1179 : decode code 1179 = .ok (.iload 4, 2) := by decide +kernel
theorem d_L_law_1181 : decode code 1181 = .ok (.iconst 1, 1) := by decide +kernel
theorem d_L_law_1182 : decode code 1182 = .ok (.iadd, 1) := by decide +kernel
theorem d_L_law_1183 : decode code 1183 = .ok (.iaload, 1) := by decide +kernel
theorem d_L_law_1184 : decode code 1184 = .ok (.aload_n 0, 1) := by decide +kernel
theorem d_L_law_1185 : decode code 1185 = .ok (.iload 4, 2) := by decide +kernel
theorem d_L_law_1187 : decode code 1187 = .ok (.iconst 2, 1) := by decide +kernel
theorem d_L_law_1188 : decode code 1188 = .ok (.iadd, 1) := by decide +kernel
theorem d_L_law_1189 : decode code 1189 = .ok (.iaload, 1) := by decide +kernel
theorem d_L_law_1190 : decode code 1190 = .ok (.invokevirtual 139, 3) := by decide +kernel
theorem d_L_law_1193 : decode code 1193 = .ok (.istore 6, 2) := by decide +kernel
theorem d_L_law_1195 : decode code 1195 = .ok (.aload_n 2, 1) := by decide +kernel
theorem d_L_law_1196 : decode code 1196 = .ok (.invokevirtual 86, 3) := by decide +kernel
theorem d_L_law_1199 : decode code 1199 = .ok (.iload 5, 2) := by decide +kernel
theorem d_L_law_1201 : decode code 1201 = .ok (.if_icmp .eq 5, 3) := by decide +kernel
theorem d_L_law_1204 : decode code 1204 = .ok (.iconst 0, 1) := by decide +kernel
theorem d_L_law_1205 : decode code 1205 = .ok (.ireturn, 1) := by decide +kernel
theorem d_L_law_1206 : decode code 1206 = .ok (.iload 5, 2) := by decide +kernel
theorem d_L_law_1208 : decode code 1208 = .ok (.ifCond .ne 15, 3) := by decide +kernel
theorem d_L_law_1211 : decode code 1211 = .ok (.aload_n 3, 1) := by decide +kernel
theorem d_L_law_1212 : decode code 1212 = .ok (.iconst 0, 1) := by decide +kernel
theorem d_L_law_1213 : decode code 1213 = .ok (.laload, 1) := by decide +kernel
theorem d_L_law_1214 : decode code 1214 = .ok (.iload 6, 2) := by decide +kernel
theorem d_L_law_1216 : decode code 1216 = .ok (.i2l, 1) := by decide +kernel
theorem d_L_law_1217 : decode code 1217 = .ok (.lcmp, 1) := by decide +kernel
theorem d_L_law_1218 : decode code 1218 = .ok (.ifCond .eq 5, 3) := by decide +kernel
theorem d_L_law_1221 : decode code 1221 = .ok (.iconst 0, 1) := by decide +kernel
theorem d_L_law_1222 : decode code 1222 = .ok (.ireturn, 1) := by decide +kernel
theorem d_L_law_1223 : decode code 1223 = .ok (.goto 195, 3) := by decide +kernel
theorem d_L_law_1226 : decode code 1226 = .ok (.aload_n 1, 1) := by decide +kernel
theorem d_L_law_1227 : decode code 1227 = .ok (.aload_n 0, 1) := by decide +kernel
theorem d_L_law_1228 : decode code 1228 = .ok (.iload 4, 2) := by decide +kernel
theorem d_L_law_1230 : decode code 1230 = .ok (.iconst 1, 1) := by decide +kernel
theorem d_L_law_1231 : decode code 1231 = .ok (.iadd, 1) := by decide +kernel
theorem d_L_law_1232 : decode code 1232 = .ok (.iaload, 1) := by decide +kernel
theorem d_L_law_1233 : decode code 1233 = .ok (.aload_n 3, 1) := by decide +kernel
theorem d_L_law_1234 : decode code 1234 = .ok (.invokestatic 140, 3) := by decide +kernel
theorem d_L_law_1237 : decode code 1237 = .ok (.istore 5, 2) := by decide +kernel
theorem d_L_law_1239 : decode code 1239 = .ok (.aload_n 2, 1) := by decide +kernel
theorem d_L_law_1240 : decode code 1240 = .ok (.aload_n 0, 1) := by decide +kernel
theorem d_L_law_1241 : decode code 1241 = .ok (.iload 4, 2) := by decide +kernel
theorem d_L_law_1243 : decode code 1243 = .ok (.iconst 1, 1) := by decide +kernel
theorem d_L_law_1244 : decode code 1244 = .ok (.iadd, 1) := by decide +kernel
theorem d_L_law_1245 : decode code 1245 = .ok (.iaload, 1) := by decide +kernel
theorem d_L_law_1246 : decode code 1246 = .ok (.invokevirtual 142, 3) := by decide +kernel
theorem d_L_law_1249 : decode code 1249 = .ok (.istore 6, 2) := by decide +kernel
theorem d_L_law_1251 : decode code 1251 = .ok (.aload_n 2, 1) := by decide +kernel
theorem d_L_law_1252 : decode code 1252 = .ok (.invokevirtual 86, 3) := by decide +kernel
theorem d_L_law_1255 : decode code 1255 = .ok (.iload 5, 2) := by decide +kernel
theorem d_L_law_1257 : decode code 1257 = .ok (.if_icmp .eq 5, 3) := by decide +kernel
theorem d_L_law_1260 : decode code 1260 = .ok (.iconst 0, 1) := by decide +kernel
theorem d_L_law_1261 : decode code 1261 = .ok (.ireturn, 1) := by decide +kernel
theorem d_L_law_1262 : decode code 1262 = .ok (.iload 5, 2) := by decide +kernel
theorem d_L_law_1264 : decode code 1264 = .ok (.ifCond .ne 15, 3) := by decide +kernel
theorem d_L_law_1267 : decode code 1267 = .ok (.aload_n 3, 1) := by decide +kernel
theorem d_L_law_1268 : decode code 1268 = .ok (.iconst 0, 1) := by decide +kernel
theorem d_L_law_1269 : decode code 1269 = .ok (.laload, 1) := by decide +kernel
theorem d_L_law_1270 : decode code 1270 = .ok (.iload 6, 2) := by decide +kernel
theorem d_L_law_1272 : decode code 1272 = .ok (.i2l, 1) := by decide +kernel
theorem d_L_law_1273 : decode code 1273 = .ok (.lcmp, 1) := by decide +kernel
theorem d_L_law_1274 : decode code 1274 = .ok (.ifCond .eq 5, 3) := by decide +kernel
theorem d_L_law_1277 : decode code 1277 = .ok (.iconst 0, 1) := by decide +kernel
theorem d_L_law_1278 : decode code 1278 = .ok (.ireturn, 1) := by decide +kernel
theorem d_L_law_1279 : decode code 1279 = .ok (.goto 139, 3) := by decide +kernel
theorem d_L_law_1282 : decode code 1282 = .ok (.aload_n 1, 1) := by decide +kernel
theorem d_L_law_1283 : decode code 1283 = .ok (.aload_n 0, 1) := by decide +kernel
theorem d_L_law_1284 : decode code 1284 = .ok (.iload 4, 2) := by decide +kernel
theorem d_L_law_1286 : decode code 1286 = .ok (.iconst 1, 1) := by decide +kernel
theorem d_L_law_1287 : decode code 1287 = .ok (.iadd, 1) := by decide +kernel
theorem d_L_law_1288 : decode code 1288 = .ok (.iaload, 1) := by decide +kernel
theorem d_L_law_1289 : decode code 1289 = .ok (.aload_n 0, 1) := by decide +kernel
theorem d_L_law_1290 : decode code 1290 = .ok (.iload 4, 2) := by decide +kernel
theorem d_L_law_1292 : decode code 1292 = .ok (.iconst 2, 1) := by decide +kernel
theorem d_L_law_1293 : decode code 1293 = .ok (.iadd, 1) := by decide +kernel
theorem d_L_law_1294 : decode code 1294 = .ok (.iaload, 1) := by decide +kernel
theorem d_L_law_1295 : decode code 1295 = .ok (.aload_n 0, 1) := by decide +kernel
theorem d_L_law_1296 : decode code 1296 = .ok (.iload 4, 2) := by decide +kernel
theorem d_L_law_1298 : decode code 1298 = .ok (.iconst 3, 1) := by decide +kernel
theorem d_L_law_1299 : decode code 1299 = .ok (.iadd, 1) := by decide +kernel
theorem d_L_law_1300 : decode code 1300 = .ok (.iaload, 1) := by decide +kernel
theorem d_L_law_1301 : decode code 1301 = .ok (.aload_n 3, 1) := by decide +kernel
theorem d_L_law_1302 : decode code 1302 = .ok (.invokestatic 143, 3) := by decide +kernel
theorem d_L_law_1305 : decode code 1305 = .ok (.istore 5, 2) := by decide +kernel
theorem d_L_law_1307 : decode code 1307 = .ok (.aload_n 2, 1) := by decide +kernel
theorem d_L_law_1308 : decode code 1308 = .ok (.aload_n 0, 1) := by decide +kernel
theorem d_L_law_1309 : decode code 1309 = .ok (.iload 4, 2) := by decide +kernel
theorem d_L_law_1311 : decode code 1311 = .ok (.iconst 1, 1) := by decide +kernel
theorem d_L_law_1312 : decode code 1312 = .ok (.iadd, 1) := by decide +kernel
theorem d_L_law_1313 : decode code 1313 = .ok (.iaload, 1) := by decide +kernel
theorem d_L_law_1314 : decode code 1314 = .ok (.aload_n 0, 1) := by decide +kernel
theorem d_L_law_1315 : decode code 1315 = .ok (.iload 4, 2) := by decide +kernel
theorem d_L_law_1317 : decode code 1317 = .ok (.iconst 2, 1) := by decide +kernel
theorem d_L_law_1318 : decode code 1318 = .ok (.iadd, 1) := by decide +kernel
theorem d_L_law_1319 : decode code 1319 = .ok (.iaload, 1) := by decide +kernel
theorem d_L_law_1320 : decode code 1320 = .ok (.aload_n 0, 1) := by decide +kernel
theorem d_L_law_1321 : decode code 1321 = .ok (.iload 4, 2) := by decide +kernel
theorem d_L_law_1323 : decode code 1323 = .ok (.iconst 3, 1) := by decide +kernel
theorem d_L_law_1324 : decode code 1324 = .ok (.iadd, 1) := by decide +kernel
theorem d_L_law_1325 : decode code 1325 = .ok (.iaload, 1) := by decide +kernel
theorem d_L_law_1326 : decode code 1326 = .ok (.invokevirtual 145, 3) := by decide +kernel
theorem d_L_law_1329 : decode code 1329 = .ok (.istore 6, 2) := by decide +kernel
theorem d_L_law_1331 : decode code 1331 = .ok (.aload_n 2, 1) := by decide +kernel
theorem d_L_law_1332 : decode code 1332 = .ok (.invokevirtual 86, 3) := by decide +kernel
theorem d_L_law_1335 : decode code 1335 = .ok (.iload 5, 2) := by decide +kernel
theorem d_L_law_1337 : decode code 1337 = .ok (.if_icmp .eq 5, 3) := by decide +kernel
theorem d_L_law_1340 : decode code 1340 = .ok (.iconst 0, 1) := by decide +kernel
theorem d_L_law_1341 : decode code 1341 = .ok (.ireturn, 1) := by decide +kernel
theorem d_L_law_1342 : decode code 1342 = .ok (.iload 5, 2) := by decide +kernel
theorem d_L_law_1344 : decode code 1344 = .ok (.ifCond .ne 15, 3) := by decide +kernel
theorem d_L_law_1347 : decode code 1347 = .ok (.aload_n 3, 1) := by decide +kernel
theorem d_L_law_1348 : decode code 1348 = .ok (.iconst 0, 1) := by decide +kernel
theorem d_L_law_1349 : decode code 1349 = .ok (.laload, 1) := by decide +kernel
theorem d_L_law_1350 : decode code 1350 = .ok (.iload 6, 2) := by decide +kernel
theorem d_L_law_1352 : decode code 1352 = .ok (.i2l, 1) := by decide +kernel
theorem d_L_law_1353 : decode code 1353 = .ok (.lcmp, 1) := by decide +kernel
theorem d_L_law_1354 : decode code 1354 = .ok (.ifCond .eq 5, 3) := by decide +kernel
theorem d_L_law_1357 : decode code 1357 = .ok (.iconst 0, 1) := by decide +kernel
theorem d_L_law_1358 : decode code 1358 = .ok (.ireturn, 1) := by decide +kernel
theorem d_L_law_1359 : decode code 1359 = .ok (.goto 59, 3) := by decide +kernel
theorem d_L_law_1362 : decode code 1362 = .ok (.aload_n 1, 1) := by decide +kernel
theorem d_L_law_1363 : decode code 1363 = .ok (.aload_n 0, 1) := by decide +kernel
theorem d_L_law_1364 : decode code 1364 = .ok (.iload 4, 2) := by decide +kernel
theorem d_L_law_1366 : decode code 1366 = .ok (.iconst 1, 1) := by decide +kernel
theorem d_L_law_1367 : decode code 1367 = .ok (.iadd, 1) := by decide +kernel
theorem d_L_law_1368 : decode code 1368 = .ok (.iaload, 1) := by decide +kernel
theorem d_L_law_1369 : decode code 1369 = .ok (.aload_n 3, 1) := by decide +kernel
theorem d_L_law_1370 : decode code 1370 = .ok (.invokestatic 146, 3) := by decide +kernel
theorem d_L_law_1373 : decode code 1373 = .ok (.istore 5, 2) := by decide +kernel
theorem d_L_law_1375 : decode code 1375 = .ok (.aload_n 2, 1) := by decide +kernel
theorem d_L_law_1376 : decode code 1376 = .ok (.aload_n 0, 1) := by decide +kernel
theorem d_L_law_1377 : decode code 1377 = .ok (.iload 4, 2) := by decide +kernel
theorem d_L_law_1379 : decode code 1379 = .ok (.iconst 1, 1) := by decide +kernel
theorem d_L_law_1380 : decode code 1380 = .ok (.iadd, 1) := by decide +kernel
theorem d_L_law_1381 : decode code 1381 = .ok (.iaload, 1) := by decide +kernel
theorem d_L_law_1382 : decode code 1382 = .ok (.invokevirtual 148, 3) := by decide +kernel
theorem d_L_law_1385 : decode code 1385 = .ok (.istore 6, 2) := by decide +kernel
theorem d_L_law_1387 : decode code 1387 = .ok (.aload_n 2, 1) := by decide +kernel
theorem d_L_law_1388 : decode code 1388 = .ok (.invokevirtual 86, 3) := by decide +kernel
theorem d_L_law_1391 : decode code 1391 = .ok (.iload 5, 2) := by decide +kernel
theorem d_L_law_1393 : decode code 1393 = .ok (.if_icmp .eq 5, 3) := by decide +kernel
theorem d_L_law_1396 : decode code 1396 = .ok (.iconst 0, 1) := by decide +kernel
theorem d_L_law_1397 : decode code 1397 = .ok (.ireturn, 1) := by decide +kernel
theorem d_L_law_1398 : decode code 1398 = .ok (.iload 5, 2) := by decide +kernel
theorem d_L_law_1400 : decode code 1400 = .ok (.ifCond .ne 15, 3) := by decide +kernel
theorem d_L_law_1403 : decode code 1403 = .ok (.aload_n 3, 1) := by decide +kernel
theorem d_L_law_1404 : decode code 1404 = .ok (.iconst 0, 1) := by decide +kernel
theorem d_L_law_1405 : decode code 1405 = .ok (.laload, 1) := by decide +kernel
theorem d_L_law_1406 : decode code 1406 = .ok (.iload 6, 2) := by decide +kernel
theorem d_L_law_1408 : decode code 1408 = .ok (.i2l, 1) := by decide +kernel
theorem d_L_law_1409 : decode code 1409 = .ok (.lcmp, 1) := by decide +kernel
theorem d_L_law_1410 : decode code 1410 = .ok (.ifCond .eq 5, 3) := by decide +kernel
theorem d_L_law_1413 : decode code 1413 = .ok (.iconst 0, 1) := by decide +kernel
theorem d_L_law_1414 : decode code 1414 = .ok (.ireturn, 1) := by decide +kernel
theorem d_L_law_1415 : decode code 1415 = .ok (.goto 3, 3) := by decide +kernel
theorem d_L_law_1418 : decode code 1418 = .ok (.iinc 4 6, 3) := by decide +kernel
theorem d_L_law_1421 : decode code 1421 = .ok (.goto (-1398), 3) := by decide +kernel
theorem d_L_law_1424 : decode code 1424 = .ok (.iconst 1, 1) := by decide +kernel
theorem d_L_law_1425 : decode code 1425 = .ok (.ireturn, 1) := by decide +kernel
