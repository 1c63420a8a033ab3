theorem dL_law__1009 : decode cL_law_ 1009 = .ok (.aload_n 1, 1) := by decide +kernel
theorem dL_law__1010 : decode cL_law_ 1010 = .ok (.aload_n 0, 1) := by decide +kernel
theorem dL_law__1011 : decode cL_law_ 1011 = .ok (.iload 4, 2) := by decide +kernel
theorem dL_law__1013 : decode cL_law_ 1013 = .ok (.iconst 1, 1) := by decide +kernel
theorem dL_law__1014 : decode cL_law_ 1014 = .ok (.iadd, 1) := by decide +kernel
theorem dL_law__1015 : decode cL_law_ 1015 = .ok (.iaload, 1) := by decide +kernel
theorem dL_law__1016 : decode cL_law_ 1016 = .ok (.aload_n 0, 1) := by decide +kernel
theorem dL_law__1017 : decode cL_law_ 1017 = .ok (.iload 4, 2) := by decide +kernel
theorem dL_law__1019 : decode cL_law_ 1019 = .ok (.iconst 2, 1) := by decide +kernel
theorem dL_law__1020 : decode cL_law_ 1020 = .ok (.iadd, 1) := by decide +kernel
theorem dL_law__1021 : decode cL_law_ 1021 = .ok (.iaload, 1) := by decide +kernel
theorem dL_law__1022 : decode cL_law_ 1022 = .ok (.aload_n 0, 1) := by decide +kernel
theorem dL_law__1023 : decode cL_law_ 1023 = .ok (.iload 4, 2) := by decide +kernel
theorem dL_law__1025 : decode cL_law_ 1025 = .ok (.iconst 3, 1) := by decide +kernel
theorem dL_law__1026 : decode cL_law_ 1026 = .ok (.iadd, 1) := by decide +kernel
theorem dL_law__1027 : decode cL_law_ 1027 = .ok (.iaload, 1) := by decide +kernel
theorem dL_law__1028 : decode cL_law_ 1028 = .ok (.aload_n 0, 1) := by decide +kernel
theorem dL_law__1029 : decode cL_law_ 1029 = .ok (.iload 4, 2) := by decide +kernel
theorem dL_law__1031 : decode cL_law_ 1031 = .ok (.iconst 4, 1) := by decide +kernel
theorem dL_law__1032 : decode cL_law_ 1032 = .ok (.iadd, 1) := by decide +kernel
theorem dL_law__1033 : decode cL_law_ 1033 = .ok (.iaload, 1) := by decide +kernel
theorem dL_law__1034 : decode cL_law_ 1034 = .ok (.aload_n 3, 1) := by decide +kernel
theorem dL_law__1035 : decode cL_law_ 1035 = .ok (.invokestatic 139, 3) := by decide +kernel
theorem dL_law__1038 : decode cL_law_ 1038 = .ok (.istore 5, 2) := by decide +kernel
theorem dL_law__1040 : decode cL_law_ 1040 = .ok (.aload_n 2, 1) := by decide +kernel
theorem dL_law__1041 : decode cL_law_ 1041 = .ok (.aload_n 0, 1) := by decide +kernel
theorem dL_law__1042 : decode cL_law_ 1042 = .ok (.iload 4, 2) := by decide +kernel
theorem dL_law__1044 : decode cL_law_ 1044 = .ok (.iconst 1, 1) := by decide +kernel
theorem dL_law__1045 : decode cL_law_ 1045 = .ok (.iadd, 1) := by decide +kernel
theorem dL_law__1046 : decode cL_law_ 1046 = .ok (.iaload, 1) := by decide +kernel
theorem dL_law__1047 : decode cL_law_ 1047 = .ok (.aload_n 0, 1) := by decide +kernel
theorem dL_law__1048 : decode cL_law_ 1048 = .ok (.iload 4, 2) := by decide +kernel
theorem dL_law__1050 : decode cL_law_ 1050 = .ok (.iconst 2, 1) := by decide +kernel
theorem dL_law__1051 : decode cL_law_ 1051 = .ok (.iadd, 1) := by decide +kernel
theorem dL_law__1052 : decode cL_law_ 1052 = .ok (.iaload, 1) := by decide +kernel
theorem dL_law__1053 : decode cL_law_ 1053 = .ok (.aload_n 0, 1) := by decide +kernel
theorem dL_law__1054 : decode cL_law_ 1054 = .ok (.iload 4, 2) := by decide +kernel
theorem dL_law__1056 : decode cL_law_ 1056 = .ok (.iconst 3, 1) := by decide +kernel
theorem dL_law__1057 : decode cL_law_ 1057 = .ok (.iadd, 1) := by decide +kernel
theorem dL_law__1058 : decode cL_law_ 1058 = .ok (.iaload, 1) := by decide +kernel
theorem dL_law__1059 : decode cL_law_ 1059 = .ok (.aload_n 0, 1) := by decide +kernel
theorem dL_law__1060 : decode cL_law_ 1060 = .ok (.iload 4, 2) := by decide +kernel
theorem dL_law__1062 : decode cL_law_ 1062 = .ok (.iconst 4, 1) := by decide +kernel
theorem dL_law__1063 : decode cL_law_ 1063 = .ok (.iadd, 1) := by decide +kernel
theorem dL_law__1064 : decode cL_law_ 1064 = .ok (.iaload, 1) := by decide +kernel
theorem dL_law__1065 : decode cL_law_ 1065 = .ok (.invokevirtual 142, 3) := by decide +kernel
theorem dL_law__1068 : decode cL_law_ 1068 = .ok (.istore 6, 2) := by decide +kernel
theorem dL_law__1070 : decode cL_law_ 1070 = .ok (.aload_n 2, 1) := by decide +kernel
theorem dL_law__1071 : decode cL_law_ 1071 = .ok (.invokevirtual 95, 3) := by decide +kernel
theorem dL_law__1074 : decode cL_law_ 1074 = .ok (.iload 5, 2) := by decide +kernel
theorem dL_law__1076 : decode cL_law_ 1076 = .ok (.if_icmp .eq 5, 3) := by decide +kernel
theorem dL_law__1081 : decode cL_law_ 1081 = .ok (.iload 5, 2) := by decide +kernel
theorem dL_law__1083 : decode cL_law_ 1083 = .ok (.ifCond .ne 15, 3) := by decide +kernel
theorem dL_law__1098 : decode cL_law_ 1098 = .ok (.goto 645, 3) := by decide +kernel
theorem dL_law__1101 : decode cL_law_ 1101 = .ok (.aload_n 1, 1) := by decide +kernel
theorem dL_law__1102 : decode cL_law_ 1102 = .ok (.aload_n 0, 1) := by decide +kernel
theorem dL_law__1103 : decode cL_law_ 1103 = .ok (.iload 4, 2) := by decide +kernel
theorem dL_law__1105 : decode cL_law_ 1105 = .ok (.iconst 1, 1) := by decide +kernel
theorem dL_law__1106 : decode cL_law_ 1106 = .ok (.iadd, 1) := by decide +kernel
theorem dL_law__1107 : decode cL_law_ 1107 = .ok (.iaload, 1) := by decide +kernel
theorem dL_law__1108 : decode cL_law_ 1108 = .ok (.aload_n 3, 1) := by decide +kernel
theorem dL_law__1109 : decode cL_law_ 1109 = .ok (.invokestatic 143, 3) := by decide +kernel
theorem dL_law__1112 : decode cL_law_ 1112 = .ok (.istore 5, 2) := by decide +kernel
theorem dL_law__1114 : decode cL_law_ 1114 = .ok (.aload_n 2, 1) := by decide +kernel
theorem dL_law__1115 : decode cL_law_ 1115 = .ok (.aload_n 0, 1) := by decide +kernel
theorem dL_law__1116 : decode cL_law_ 1116 = .ok (.iload 4, 2) := by decide +kernel
theorem dL_law__1118 : decode cL_law_ 1118 = .ok (.iconst 1, 1) := by decide +kernel
theorem dL_law__1119 : decode cL_law_ 1119 = .ok (.iadd, 1) := by decide +kernel
theorem dL_law__1120 : decode cL_law_ 1120 = .ok (.iaload, 1) := by decide +kernel
theorem dL_law__1121 : decode cL_law_ 1121 = .ok (.invokevirtual 145, 3) := by decide +kernel
theorem dL_law__1124 : decode cL_law_ 1124 = .ok (.istore 6, 2) := by decide +kernel
theorem dL_law__1126 : decode cL_law_ 1126 = .ok (.aload_n 2, 1) := by decide +kernel
theorem dL_law__1127 : decode cL_law_ 1127 = .ok (.invokevirtual 95, 3) := by decide +kernel
theorem dL_law__1130 : decode cL_law_ 1130 = .ok (.iload 5, 2) := by decide +kernel
theorem dL_law__1132 : decode cL_law_ 1132 = .ok (.if_icmp .eq 5, 3) := by decide +kernel
theorem dL_law__1137 : decode cL_law_ 1137 = .ok (.iload 5, 2) := by decide +kernel
theorem dL_law__1139 : decode cL_law_ 1139 = .ok (.ifCond .ne 15, 3) := by decide +kernel
theorem dL_law__1154 : decode cL_law_ 1154 = .ok (.goto 589, 3) := by decide +kernel
theorem dL_law__1157 : decode cL_law_ 1157 = .ok (.aload_n 1, 1) := by decide +kernel
theorem dL_law__1158 : decode cL_law_ 1158 = .ok (.aload_n 0, 1) := by decide +kernel
theorem dL_law__1159 : decode cL_law_ 1159 = .ok (.iload 4, 2) := by decide +kernel
theorem dL_law__1161 : decode cL_law_ 1161 = .ok (.iconst 1, 1) := by decide +kernel
theorem dL_law__1162 : decode cL_law_ 1162 = .ok (.iadd, 1) := by decide +kernel
theorem dL_law__1163 : decode cL_law_ 1163 = .ok (.iaload, 1) := by decide +kernel
theorem dL_law__1164 : decode cL_law_ 1164 = .ok (.aload_n 0, 1) := by decide +kernel
theorem dL_law__1165 : decode cL_law_ 1165 = .ok (.iload 4, 2) := by decide +kernel
theorem dL_law__1167 : decode cL_law_ 1167 = .ok (.iconst 2, 1) := by decide +kernel
theorem dL_law__1168 : decode cL_law_ 1168 = .ok (.iadd, 1) := by decide +kernel
theorem dL_law__1169 : decode cL_law_ 1169 = .ok (.iaload, 1) := by decide +kernel
theorem dL_law__1170 : decode cL_law_ 1170 = .ok (.aload_n 3, 1) := by decide +kernel
theorem dL_law__1171 : decode cL_law_ 1171 = .ok (.invokestatic 146, 3) := by decide +kernel
theorem dL_law__1174 : decode cL_law_ 1174 = .ok (.istore 5, 2) := by decide +kernel
theorem dL_law__1176 : decode cL_law_ 1176 = .ok (.aload_n 2, 1) := by decide +kernel
theorem dL_law__1177 : decode cL_law_ 1177 = .ok (.aload_n 0, 1) := by decide +kernel
theorem dL_law__1178 : decode cL_law_ 1178 = .ok (.iload 4, 2) := by decide +kernel
theorem dL_law__1180 : decode cL_law_ 1180 = .ok (.iconst 1, 1) := by decide +kernel
theorem dL_law__1181 : decode cL_law_ 1181 = .ok (.iadd, 1) := by decide +kernel
theorem dL_law__1182 : decode cL_law_ 1182 = .ok (.iaload, 1) := by decide +kernel
theorem dL_law__1183 : decode cL_law_ 1183 = .ok (.aload_n 0, 1) := by decide +kernel
theorem dL_law__1184 : decode cL_law_ 1184 = .ok (.iload 4, 2) := by decide +kernel
theorem dL_law__1186 : decode cL_law_ 1186 = .ok (.iconst 2, 1) := by decide +kernel
theorem dL_law__1187 : decode cL_law_ 1187 = .ok (.iadd, 1) := by decide +kernel
theorem dL_law__1188 : decode cL_law_ 1188 = .ok (.iaload, 1) := by decide +kernel
theorem dL_law__1189 : decode cL_law_ 1189 = .ok (.invokevirtual 148, 3) := by decide +kernel
theorem dL_law__1192 : decode cL_law_ 1192 = .ok (.istore 6, 2) := by decide +kernel
theorem dL_law__1194 : decode cL_law_ 1194 = .ok (.aload_n 2, 1) := by decide +kernel
theorem dL_law__1195 : decode cL_law_ 1195 = .ok (.invokevirtual 95, 3) := by decide +kernel
theorem dL_law__1198 : decode cL_law_ 1198 = .ok (.iload 5, 2) := by decide +kernel
theorem dL_law__1200 : decode cL_law_ 1200 = .ok (.if_icmp .eq 5, 3) := by decide +kernel
theorem dL_law__1205 : decode cL_law_ 1205 = .ok (.iload 5, 2) := by decide +kernel
theorem dL_law__1207 : decode cL_law_ 1207 = .ok (.ifCond .ne 15, 3) := by decide +kernel
theorem dL_law__1222 : decode cL_law_ 1222 = .ok (.goto 521, 3) := by decide +kernel
theorem dL_law__1225 : decode cL_law_ 1225 = .ok (.aload_n 1, 1) := by decide +kernel
theorem dL_law__1226 : decode cL_law_ 1226 = .ok (.aload_n 0, 1) := by decide +kernel
theorem dL_law__1227 : decode cL_law_ 1227 = .ok (.iload 4, 2) := by decide +kernel
theorem dL_law__1229 : decode cL_law_ 1229 = .ok (.iconst 1, 1) := by decide +kernel
theorem dL_law__1230 : decode cL_law_ 1230 = .ok (.iadd, 1) := by decide +kernel
theorem dL_law__1231 : decode cL_law_ 1231 = .ok (.iaload, 1) := by decide +kernel
theorem dL_law__1232 : decode cL_law_ 1232 = .ok (.aload_n 0, 1) := by decide +kernel
theorem dL_law__1233 : decode cL_law_ 1233 = .ok (.iload 4, 2) := by decide +kernel
theorem dL_law__1235 : decode cL_law_ 1235 = .ok (.iconst 2, 1) := by decide +kernel
theorem dL_law__1236 : decode cL_law_ 1236 = .ok (.iadd, 1) := by decide +kernel
theorem dL_law__1237 : decode cL_law_ 1237 = .ok (.iaload, 1) := by decide +kernel
theorem dL_law__1238 : decode cL_law_ 1238 = .ok (.aload_n 0, 1) := by decide +kernel
theorem dL_law__1239 : decode cL_law_ 1239 = .ok (.iload 4, 2) := by decide +kernel
theorem dL_law__1241 : decode cL_law_ 1241 = .ok (.iconst 3, 1) := by decide +kernel
theorem dL_law__1242 : decode cL_law_ 1242 = .ok (.iadd, 1) := by decide +kernel
theorem dL_law__1243 : decode cL_law_ 1243 = .ok (.iaload, 1) := by decide +kernel
theorem dL_law__1244 : decode cL_law_ 1244 = .ok (.aload_n 3, 1) := by decide +kernel
theorem dL_law__1245 : decode cL_law_ 1245 = .ok (.invokestatic 149, 3) := by decide +kernel
theorem dL_law__1248 : decode cL_law_ 1248 = .ok (.istore 5, 2) := by decide +kernel
theorem dL_law__1250 : decode cL_law_ 1250 = .ok (.aload_n 2, 1) := by decide +kernel
theorem dL_law__1251 : decode cL_law_ 1251 = .ok (.aload_n 0, 1) := by decide +kernel
theorem dL_law__1252 : decode cL_law_ 1252 = .ok (.iload 4, 2) := by decide +kernel
theorem dL_law__1254 : decode cL_law_ 1254 = .ok (.iconst 1, 1) := by decide +kernel
theorem dL_law__1255 : decode cL_law_ 1255 = .ok (.iadd, 1) := by decide +kernel
theorem dL_law__1256 : decode cL_law_ 1256 = .ok (.iaload, 1) := by decide +kernel
theorem dL_law__1257 : decode cL_law_ 1257 = .ok (.aload_n 0, 1) := by decide +kernel
theorem dL_law__1258 : decode cL_law_ 1258 = .ok (.iload 4, 2) := by decide +kernel
theorem dL_law__1260 : decode cL_law_ 1260 = .ok (.iconst 2, 1) := by decide +kernel
theorem dL_law__1261 : decode cL_law_ 1261 = .ok (.iadd, 1) := by decide +kernel
theorem dL_law__1262 : decode cL_law_ 1262 = .ok (.iaload, 1) := by decide +kernel
theorem dL_law__1263 : decode cL_law_ 1263 = .ok (.aload_n 0, 1) := by decide +kernel
theorem dL_law__1264 : decode cL_law_ 1264 = .ok (.iload 4, 2) := by decide +kernel
theorem dL_law__1266 : decode cL_law_ 1266 = .ok (.iconst 3, 1) := by decide +kernel
theorem dL_law__1267 : decode cL_law_ 1267 = .ok (.iadd, 1) := by decide +kernel
theorem dL_law__1268 : decode cL_law_ 1268 = .ok (.iaload, 1) := by decide +kernel
theorem dL_law__1269 : decode cL_law_ 1269 = .ok (.invokevirtual 151, 3) := by decide +kernel
theorem dL_law__1272 : decode cL_law_ 1272 = .ok (.istore 6, 2) := by decide +kernel
theorem dL_law__1274 : decode cL_law_ 1274 = .ok (.aload_n 2, 1) := by decide +kernel
theorem dL_law__1275 : decode cL_law_ 1275 = .ok (.invokevirtual 95, 3) := by decide +kernel
theorem dL_law__1278 : decode cL_law_ 1278 = .ok (.iload 5, 2) := by decide +kernel
theorem dL_law__1280 : decode cL_law_ 1280 = .ok (.if_icmp .eq 5, 3) := by decide +kernel
theorem dL_law__1285 : decode cL_law_ 1285 = .ok (.iload 5, 2) := by decide +kernel
theorem dL_law__1287 : decode cL_law_ 1287 = .ok (.ifCond .ne 15, 3) := by decide +kernel
theorem dL_law__1302 : decode cL_law_ 1302 = .ok (.goto 441, 3) := by decide +kernel
theorem dL_law__1305 : decode cL_law_ 1305 = .ok (.aload_n 1, 1) := by decide +kernel
theorem dL_law__1306 : decode cL_law_ 1306 = .ok (.aload_n 0, 1) := by decide +kernel
theorem dL_law__1307 : decode cL_law_ 1307 = .ok (.iload 4, 2) := by decide +kernel
theorem dL_law__1309 : decode cL_law_ 1309 = .ok (.iconst 1, 1) := by decide +kernel
theorem dL_law__1310 : decode cL_law_ 1310 = .ok (.iadd, 1) := by decide +kernel
theorem dL_law__1311 : decode cL_law_ 1311 = .ok (.iaload, 1) := by decide +kernel
theorem dL_law__1312 : decode cL_law_ 1312 = .ok (.aload_n 0, 1) := by decide +kernel
theorem dL_law__1313 : decode cL_law_ 1313 = .ok (.iload 4, 2) := by decide +kernel
theorem dL_law__1315 : decode cL_law_ 1315 = .ok (.iconst 2, 1) := by decide +kernel
theorem dL_law__1316 : decode cL_law_ 1316 = .ok (.iadd, 1) := by decide +kernel
theorem dL_law__1317 : decode cL_law_ 1317 = .ok (.iaload, 1) := by decide +kernel
theorem dL_law__1318 : decode cL_law_ 1318 = .ok (.aload_n 0, 1) := by decide +kernel
theorem dL_law__1319 : decode cL_law_ 1319 = .ok (.iload 4, 2) := by decide +kernel
theorem dL_law__1321 : decode cL_law_ 1321 = .ok (.iconst 3, 1) := by decide +kernel
theorem dL_law__1322 : decode cL_law_ 1322 = .ok (.iadd, 1) := by decide +kernel
theorem dL_law__1323 : decode cL_law_ 1323 = .ok (.iaload, 1) := by decide +kernel
theorem dL_law__1324 : decode cL_law_ 1324 = .ok (.aload_n 3, 1) := by decide +kernel
theorem dL_law__1325 : decode cL_law_ 1325 = .ok (.invokestatic 152, 3) := by decide +kernel
theorem dL_law__1328 : decode cL_law_ 1328 = .ok (.istore 5, 2) := by decide +kernel
theorem dL_law__1330 : decode cL_law_ 1330 = .ok (.aload_n 2, 1) := by decide +kernel
theorem dL_law__1331 : decode cL_law_ 1331 = .ok (.aload_n 0, 1) := by decide +kernel
theorem dL_law__1332 : decode cL_law_ 1332 = .ok (.iload 4, 2) := by decide +kernel
theorem dL_law__1334 : decode cL_law_ 1334 = .ok (.iconst 1, 1) := by decide +kernel
theorem dL_law__1335 : decode cL_law_ 1335 = .ok (.iadd, 1) := by decide +kernel
theorem dL_law__1336 : decode cL_law_ 1336 = .ok (.iaload, 1) := by decide +kernel
theorem dL_law__1337 : decode cL_law_ 1337 = .ok (.aload_n 0, 1) := by decide +kernel
theorem dL_law__1338 : decode cL_law_ 1338 = .ok (.iload 4, 2) := by decide +kernel
theorem dL_law__1340 : decode cL_law_ 1340 = .ok (.iconst 2, 1) := by decide +kernel
theorem dL_law__1341 : decode cL_law_ 1341 = .ok (.iadd, 1) := by decide +kernel
theorem dL_law__1342 : decode cL_law_ 1342 = .ok (.iaload, 1) := by decide +kernel
theorem dL_law__1343 : decode cL_law_ 1343 = .ok (.aload_n 0, 1) := by decide +kernel
theorem dL_law__1344 : decode cL_law_ 1344 = .ok (.iload 4, 2) := by decide +kernel
theorem dL_law__1346 : decode cL_law_ 1346 = .ok (.iconst 3, 1) := by decide +kernel
theorem dL_law__1347 : decode cL_law_ 1347 = .ok (.iadd, 1) := by decide +kernel
theorem dL_law__1348 : decode cL_law_ 1348 = .ok (.iaload, 1) := by decide +kernel
theorem dL_law__1349 : decode cL_law_ 1349 = .ok (.invokevirtual 154, 3) := by decide +kernel
theorem dL_law__1352 : decode cL_law_ 1352 = .ok (.istore 6, 2) := by decide +kernel
theorem dL_law__1354 : decode cL_law_ 1354 = .ok (.aload_n 2, 1) := by decide +kernel
theorem dL_law__1355 : decode cL_law_ 1355 = .ok (.invokevirtual 95, 3) := by decide +kernel
theorem dL_law__1358 : decode cL_law_ 1358 = .ok (.iload 5, 2) := by decide +kernel
theorem dL_law__1360 : decode cL_law_ 1360 = .ok (.if_icmp .eq 5, 3) := by decide +kernel
theorem dL_law__1365 : decode cL_law_ 1365 = .ok (.iload 5, 2) := by decide +kernel
theorem dL_law__1367 : decode cL_law_ 1367 = .ok (.ifCond .ne 15, 3) := by decide +kernel
theorem dL_law__1382 : decode cL_law_ 1382 = .ok (.goto 361, 3) := by decide +kernel
theorem dL_law__1385 : decode cL_law_ 1385 = .ok (.aload_n 1, 1) := by decide +kernel
theorem dL_law__1386 : decode cL_law_ 1386 = .ok (.aload_n 0, 1) := by decide +kernel
theorem dL_law__1387 : decode cL_law_ 1387 = .ok (.iload 4, 2) := by decide +kernel
theorem dL_law__1389 : decode cL_law_ 1389 = .ok (.iconst 1, 1) := by decide +kernel
theorem dL_law__1390 : decode cL_law_ 1390 = .ok (.iadd, 1) := by decide +kernel
theorem dL_law__1391 : decode cL_law_ 1391 = .ok (.iaload, 1) := by decide +kernel
theorem dL_law__1392 : decode cL_law_ 1392 = .ok (.aload_n 0, 1) := by decide +kernel
theorem dL_law__1393 : decode cL_law_ 1393 = .ok (.iload 4, 2) := by decide +kernel
theorem dL_law__1395 : decode cL_law_ 1395 = .ok (.iconst 2, 1) := by decide +kernel
theorem dL_law__1396 : decode cL_law_ 1396 = .ok (.iadd, 1) := by decide +kernel
theorem dL_law__1397 : decode cL_law_ 1397 = .ok (.iaload, 1) := by decide +kernel
theorem dL_law__1398 : decode cL_law_ 1398 = .ok (.aload_n 3, 1) := by decide +kernel
theorem dL_law__1399 : decode cL_law_ 1399 = .ok (.invokestatic 155, 3) := by decide +kernel
theorem dL_law__1402 : decode cL_law_ 1402 = .ok (.istore 5, 2) := by decide +kernel
theorem dL_law__1404 : decode cL_law_ 1404 = .ok (.aload_n 2, 1) := by decide +kernel
theorem dL_law__1405 : decode cL_law_ 1405 = .ok (.aload_n 0, 1) := by decide +kernel
theorem dL_law__1406 : decode cL_law_ 1406 = .ok (.iload 4, 2) := by decide +kernel
theorem dL_law__1408 : decode cL_law_ 1408 = .ok (.iconst 1, 1) := by decide +kernel
theorem dL_law__1409 : decode cL_law_ 1409 = .ok (.iadd, 1) := by decide +kernel
theorem dL_law__1410 : decode cL_law_ 1410 = .ok (.iaload, 1) := by decide +kernel
theorem dL_law__1411 : decode cL_law_ 1411 = .ok (.aload_n 0, 1) := by decide +kernel
theorem dL_law__1412 : decode cL_law_ 1412 = .ok (.iload 4, 2) := by decide +kernel
theorem dL_law__1414 : decode cL_law_ 1414 = .ok (.iconst 2, 1) := by decide +kernel
theorem dL_law__1415 : decode cL_law_ 1415 = .ok (.iadd, 1) := by decide +kernel
theorem dL_law__1416 : decode cL_law_ 1416 = .ok (.iaload, 1) := by decide +kernel
theorem dL_law__1417 : decode cL_law_ 1417 = .ok (.invokevirtual 157, 3) := by decide +kernel
theorem dL_law__1420 : decode cL_law_ 1420 = .ok (.istore 6, 2) := by decide +kernel
theorem dL_law__1422 : decode cL_law_ 1422 = .ok (.aload_n 2, 1) := by decide +kernel
theorem dL_law__1423 : decode cL_law_ 1423 = .ok (.invokevirtual 95, 3) := by decide +kernel
theorem dL_law__1426 : decode cL_law_ 1426 = .ok (.iload 5, 2) := by decide +kernel
theorem dL_law__1428 : decode cL_law_ 1428 = .ok (.if_icmp .eq 5, 3) := by decide +kernel
theorem dL_law__1433 : decode cL_law_ 1433 = .ok (.iload 5, 2) := by decide +kernel
theorem dL_law__1435 : decode cL_law_ 1435 = .ok (.ifCond .ne 15, 3) := by decide +kernel
theorem dL_law__1450 : decode cL_law_ 1450 = .ok (.goto 293, 3) := by decide +kernel
theorem dL_law__1453 : decode cL_law_ 1453 = .ok (.aload_n 1, 1) := by decide +kernel
theorem dL_law__1454 : decode cL_law_ 1454 = .ok (.aload_n 0, 1) := by decide +kernel
theorem dL_law__1455 : decode cL_law_ 1455 = .ok (.iload 4, 2) := by decide +kernel
theorem dL_law__1457 : decode cL_law_ 1457 = .ok (.iconst 1, 1) := by decide +kernel
theorem dL_law__1458 : decode cL_law_ 1458 = .ok (.iadd, 1) := by decide +kernel
theorem dL_law__1459 : decode cL_law_ 1459 = .ok (.iaload, 1) := by decide +kernel
theorem dL_law__1460 : decode cL_law_ 1460 = .ok (.aload_n 0, 1) := by decide +kernel
theorem dL_law__1461 : decode cL_law_ 1461 = .ok (.iload 4, 2) := by decide +kernel
theorem dL_law__1463 : decode cL_law_ 1463 = .ok (.iconst 2, 1) := by decide +kernel
theorem dL_law__1464 : decode cL_law_ 1464 = .ok (.iadd, 1) := by decide +kernel
theorem dL_law__1465 : decode cL_law_ 1465 = .ok (.iaload, 1) := by decide +kernel
theorem dL_law__1466 : decode cL_law_ 1466 = .ok (.aload_n 3, 1) := by decide +kernel
theorem dL_law__1467 : decode cL_law_ 1467 = .ok (.invokestatic 158, 3) := by decide +kernel
theorem dL_law__1470 : decode cL_law_ 1470 = .ok (.istore 5, 2) := by decide +kernel
theorem dL_law__1472 : decode cL_law_ 1472 = .ok (.aload_n 2, 1) := by decide +kernel
theorem dL_law__1473 : decode cL_law_ 1473 = .ok (.aload_n 0, 1) := by decide +kernel
theorem dL_law__1474 : decode cL_law_ 1474 = .ok (.iload 4, 2) := by decide +kernel
theorem dL_law__1476 : decode cL_law_ 1476 = .ok (.iconst 1, 1) := by decide +kernel
theorem dL_law__1477 : decode cL_law_ 1477 = .ok (.iadd, 1) := by decide +kernel
theorem dL_law__1478 : decode cL_law_ 1478 = .ok (.iaload, 1) := by decide +kernel
theorem dL_law__1479 : decode cL_law_ 1479 = .ok (.aload_n 0, 1) := by decide +kernel
theorem dL_law__1480 : decode cL_law_ 1480 = .ok (.iload 4, 2) := by decide +kernel
theorem dL_law__1482 : decode cL_law_ 1482 = .ok (.iconst 2, 1) := by decide +kernel
theorem dL_law__1483 : decode cL_law_ 1483 = .ok (.iadd, 1) := by decide +kernel
theorem dL_law__1484 : decode cL_law_ 1484 = .ok (.iaload, 1) := by decide +kernel
theorem dL_law__1485 : decode cL_law_ 1485 = .ok (.invokevirtual 160, 3) := by decide +kernel
theorem dL_law__1488 : decode cL_law_ 1488 = .ok (.istore 6, 2) := by decide +kernel
theorem dL_law__1490 : decode cL_law_ 1490 = .ok (.aload_n 2, 1) := by decide +kernel
theorem dL_law__1491 : decode cL_law_ 1491 = .ok (.invokevirtual 95, 3) := by decide +kernel
theorem dL_law__1494 : decode cL_law_ 1494 = .ok (.iload 5, 2) := by decide +kernel
theorem dL_law__1496 : decode cL_law_ 1496 = .ok (.if_icmp .eq 5, 3) := by decide +kernel
theorem dL_law__1501 : decode cL_law_ 1501 = .ok (.iload 5, 2) := by decide +kernel
theorem dL_law__1503 : decode cL_law_ 1503 = .ok (.ifCond .ne 15, 3) := by decide +kernel
theorem dL_law__1518 : decode cL_law_ 1518 = .ok (.goto 225, 3) := by decide +kernel
set_option maxRecDepth 20000 in
theorem ggL_law__L_cell : GoodIn wsL_law_ wsL_cell := goodIn_ca (goodIn_r _ [1017, 248, 1018, 1019, 1020, 2, 1021, 260, 261, 139, 809, 811, 810, 1022, 256, 257, 258, 259, 16, 135, 144, 145, 146, 15, 147, 148, 149, 150, 151, 152, 153, 154, 155, 156, 157, 158, 159, 160, 161, 162, 163, 164, 165, 166, 167, 39, 674, 675, 676, 1216, 1217, 1218, 1219, 1220, 1221, 1222, 1223, 1224, 1225, 1226, 1227, 1228, 1229, 1230, 1231, 1232, 1112, 1113, 1114, 1115, 1116, 1117, 1118, 1119, 1120, 1121, 1122, 1123, 1124, 1125, 1196, 1197, 1198] (by decide +kernel) (by decide +kernel)) (goodIn_sub (fun _ h => List.mem_append_left _ (List.mem_append_right _ h)) (by decide +kernel))
set_option maxRecDepth 20000 in
theorem gL_law__L_cell : GoodIn wsL_law_ (va_wsS RL 149 yL_cell wsL_cell) := goodIn_app (goodIn_of _ (by decide +kernel)) ggL_law__L_cell
set_option maxRecDepth 20000 in
theorem ggL_law__L_heap : GoodIn wsL_law_ wsL_heap := goodIn_ca (goodIn_r _ [1043, 248, 1044, 1045, 1046, 2, 1047, 310, 822, 256, 257, 258, 259, 260, 261, 16, 135, 144, 145, 146, 15, 147, 148, 149, 150, 151, 152, 153, 154, 155, 156, 157, 158, 159, 160, 161, 162, 163, 164, 165, 166, 167, 39, 1034, 1035, 1036, 673, 641, 1216, 1217, 1218, 1219, 1220, 1221, 1222, 1223, 1224, 1225, 1226, 1227, 1228, 1233, 1234, 1235, 1236, 1112, 1113, 1114, 1115, 1116, 1117, 1118, 1119, 1120, 1121, 1122, 1123, 1124, 1125, 1196, 1197, 1198, 1241, 1242, 1243, 1244, 1245, 1246, 1247, 1248, 1249] (by decide +kernel) (by decide +kernel)) (goodIn_sub (fun _ h => List.mem_append_left _ (List.mem_append_right _ h)) (by decide +kernel))
set_option maxRecDepth 20000 in
theorem gL_law__L_heap : GoodIn wsL_law_ (va_wsS RL 155 yL_heap wsL_heap) := goodIn_app (goodIn_of _ (by decide +kernel)) ggL_law__L_heap
set_option maxRecDepth 20000 in
theorem ggL_law__L_inCell : GoodIn wsL_law_ wsL_inCell := goodIn_ca (goodIn_r _ [1029, 248, 1030, 1031, 1032, 2, 1033, 139, 809, 811, 256, 257, 258, 259, 260, 261, 16, 135, 144, 145, 146, 15, 147, 148, 149, 150, 151, 152, 153, 154, 155, 156, 157, 158, 159, 160, 161, 162, 163, 164, 165, 166, 167, 39, 674, 675, 676, 1034, 1035, 1036, 673, 641, 1216, 1217, 1218, 1219, 1220, 1221, 1222, 1223, 1224, 1225, 1226, 1227, 1228, 1229, 1230, 1231, 1232, 1112, 1113, 1114, 1115, 1116, 1117, 1118, 1119, 1120, 1121, 1122, 1123, 1124, 1125, 1196, 1197, 1198, 1241, 1242, 1243, 1244, 1245, 1246, 1247, 1248, 1249] (by decide +kernel) (by decide +kernel)) (goodIn_sub (fun _ h => List.mem_append_left _ (List.mem_append_right _ h)) (by decide +kernel))
set_option maxRecDepth 20000 in
theorem gL_law__L_inCell : GoodIn wsL_law_ (va_wsS RL 152 yL_inCell wsL_inCell) := goodIn_app (goodIn_of _ (by decide +kernel)) ggL_law__L_inCell
set_option maxRecDepth 20000 in
theorem ggL_law__L_log : GoodIn wsL_law_ wsL_log := goodIn_ca (goodIn_r _ [1001, 248, 1002, 1003, 1004, 2, 1005, 260, 261, 821, 904, 1006, 667, 1007, 1008, 1009, 1010, 669, 670, 671, 672, 17, 673, 144, 145, 146, 15, 147, 148, 149, 150, 151, 152, 153, 154, 155, 156, 157, 158, 159, 160, 161, 162, 163, 164, 165, 166, 167, 39, 1241, 1242, 1243, 1244, 1245, 1246, 1247, 1248, 1249, 1112, 1113, 1114, 1115, 1116, 1117, 1118, 1119, 1120, 1121, 1122, 1123, 1124, 1125, 1196, 1197, 1198] (by decide +kernel) (by decide +kernel)) (goodIn_sub (fun _ h => List.mem_append_left _ (List.mem_append_right _ h)) (by decide +kernel))
set_option maxRecDepth 20000 in
theorem gL_law__L_log : GoodIn wsL_law_ (va_wsS RL 146 yL_log wsL_log) := goodIn_app (goodIn_of _ (by decide +kernel)) ggL_law__L_log
set_option maxRecDepth 20000 in
theorem ggL_law__L_order : GoodIn wsL_law_ wsL_order := goodIn_ca (goodIn_r _ [969, 248, 970, 971, 972, 2, 973, 310, 20, 974, 975, 976, 896, 256, 257, 258, 259, 260, 261, 16, 135, 144, 145, 146, 15, 147, 148, 149, 150, 151, 152, 153, 154, 155, 156, 157, 158, 159, 160, 161, 162, 163, 164, 165, 166, 167, 39, 977, 978, 979, 980, 11, 12, 981, 982, 983, 186, 187, 188, 189, 190, 191, 192, 193, 194, 195, 196, 197, 198, 199, 200, 201, 202, 203, 38, 204, 205, 206, 207, 208, 209, 210, 211, 212, 213, 214, 215, 216, 217, 218, 219, 220, 221, 222, 223, 224, 225, 226, 227, 228, 229, 230, 231, 232, 233, 234, 235, 236, 237, 1216, 1217, 1218, 1219, 1220, 1221, 1222, 1223, 1224, 1225, 1226, 1227, 1228, 1112, 1113, 1114, 1115, 1116, 1117, 1118, 1119, 1120, 1121, 1122, 1123, 1124, 1125, 1250, 1251, 1252, 1233, 1234, 1235, 1236, 1196, 1197, 1198] (by decide +kernel) (by decide +kernel)) (goodIn_sub (fun _ h => List.mem_append_left _ (List.mem_append_right _ h)) (by decide +kernel))
set_option maxRecDepth 20000 in
theorem gL_law__L_order : GoodIn wsL_law_ (va_wsS RL 139 yL_order wsL_order) := goodIn_app (goodIn_of _ (by decide +kernel)) ggL_law__L_order
set_option maxRecDepth 20000 in
theorem ggL_law__L_wants : GoodIn wsL_law_ wsL_wants := goodIn_ca (goodIn_r _ [990, 248, 991, 992, 993, 2, 994, 260, 261, 20, 897, 902, 144, 145, 146, 15, 147, 148, 149, 150, 151, 152, 153, 154, 155, 156, 157, 158, 159, 160, 161, 162, 163, 164, 165, 166, 167, 39, 1112, 1113, 1114, 1115, 1116, 1117, 1118, 1119, 1120, 1121, 1122, 1123, 1124, 1125, 1250, 1251, 1252, 1196, 1197, 1198] (by decide +kernel) (by decide +kernel)) (goodIn_sub (fun _ h => List.mem_append_left _ (List.mem_append_right _ h)) (by decide +kernel))
set_option maxRecDepth 20000 in
theorem gL_law__L_wants : GoodIn wsL_law_ (va_wsS RL 143 yL_wants wsL_wants) := goodIn_app (goodIn_of _ (by decide +kernel)) ggL_law__L_wants
set_option maxRecDepth 20000 in
theorem ggL_law__L_water : GoodIn wsL_law_ wsL_water := goodIn_ca (goodIn_r _ [1054, 248, 1055, 1056, 1057, 2, 1058, 260, 261, 783, 787, 254, 1059, 785, 143, 139, 256, 257, 258, 259, 16, 135, 144, 145, 146, 15, 147, 148, 149, 150, 151, 152, 153, 154, 155, 156, 157, 158, 159, 160, 161, 162, 163, 164, 165, 166, 167, 39, 1216, 1217, 1218, 1219, 1220, 1221, 1222, 1223, 1224, 1225, 1226, 1227, 1228, 1112, 1113, 1114, 1115, 1116, 1117, 1118, 1119, 1120, 1121, 1122, 1123, 1124, 1125, 1196, 1197, 1198] (by decide +kernel) (by decide +kernel)) (goodIn_sub (fun _ h => List.mem_append_left _ (List.mem_append_right _ h)) (by decide +kernel))
set_option maxRecDepth 20000 in
theorem gL_law__L_water : GoodIn wsL_law_ (va_wsS RL 158 yL_water wsL_water) := goodIn_app (goodIn_of _ (by decide +kernel)) ggL_law__L_water
set_option maxRecDepth 20000 in
theorem ggL_law__X12_cell : GoodIn wsL_law_ wsX12_cell := goodIn_r _ [1026, 242, 102, 104, 105, 741, 742, 743, 5, 744, 84, 267, 268, 269, 270, 243, 271, 272, 273, 274, 765, 766, 767, 1126, 1127, 1128, 1129, 1130, 1131, 1132, 1133, 1134, 1135, 1136, 1137, 1138, 1139, 1140, 1141, 1142, 1143, 1144, 1145, 1146, 1147, 1148, 1149, 1150, 1151, 1152, 1153, 1154, 1155, 1156, 1157, 1158, 1159, 1160, 1161, 1162, 1163, 1164, 1165, 1166, 1167, 1168, 1169, 1170, 1171, 1172, 1173, 1174, 1175, 1176, 1177, 1178, 1179, 1180, 1181, 1182, 1183, 1184, 1185, 1186, 1187, 1188, 1189, 1190, 1191, 1192, 1193, 1194, 1195] (by decide +kernel) (by decide +kernel)
set_option maxRecDepth 20000 in
theorem gL_law__X12_cell : GoodIn wsL_law_ (wsV RL 151 RX12 yX12_cell wsX12_cell) := goodIn_app (goodIn_of _ (by decide +kernel)) ggL_law__X12_cell
set_option maxRecDepth 20000 in
theorem ggL_law__X12_heap : GoodIn wsL_law_ wsX12_heap := goodIn_r _ [1051, 242, 93, 100, 101, 267, 268, 269, 5, 270, 243, 271, 272, 273, 274, 1126, 1127, 1128, 1129, 1130, 1131, 1132, 1133, 1134, 1135, 1136, 1137, 1138, 1139, 1140, 1141, 1142, 1143, 1144, 1145, 1146, 1147, 1148, 1149, 1150, 1151, 1152, 1153, 1154, 1155, 1156, 1157, 1158, 1159, 1160, 1161, 1162, 1163, 1164, 1165, 1166, 1167, 1168, 1169, 1170, 1171, 1172, 1173, 1174, 1175, 1176, 1177, 1178, 1179, 1180, 1181, 1182, 1183, 1184, 1185, 1186, 1187, 1188, 1189, 1190, 1191, 1192, 1193, 1194, 1195] (by decide +kernel) (by decide +kernel)
set_option maxRecDepth 20000 in
theorem gL_law__X12_heap : GoodIn wsL_law_ (wsV RL 157 RX12 yX12_heap wsX12_heap) := goodIn_app (goodIn_of _ (by decide +kernel)) ggL_law__X12_heap
set_option maxRecDepth 20000 in
theorem ggL_law__X12_inCell : GoodIn wsL_law_ wsX12_inCell := goodIn_r _ [1040, 242, 102, 103, 741, 742, 743, 5, 744, 84, 267, 268, 269, 270, 243, 271, 272, 273, 274, 765, 766, 767, 1126, 1127, 1128, 1129, 1130, 1131, 1132, 1133, 1134, 1135, 1136, 1137, 1138, 1139, 1140, 1141, 1142, 1143, 1144, 1145, 1146, 1147, 1148, 1149, 1150, 1151, 1152, 1153, 1154, 1155, 1156, 1157, 1158, 1159, 1160, 1161, 1162, 1163, 1164, 1165, 1166, 1167, 1168, 1169, 1170, 1171, 1172, 1173, 1174, 1175, 1176, 1177, 1178, 1179, 1180, 1181, 1182, 1183, 1184, 1185, 1186, 1187, 1188, 1189, 1190, 1191, 1192, 1193, 1194, 1195] (by decide +kernel) (by decide +kernel)
set_option maxRecDepth 20000 in
theorem gL_law__X12_inCell : GoodIn wsL_law_ (wsV RL 154 RX12 yX12_inCell wsX12_inCell) := goodIn_app (goodIn_of _ (by decide +kernel)) ggL_law__X12_inCell
set_option maxRecDepth 20000 in
theorem ggL_law__X12_log : GoodIn wsL_law_ wsX12_log := goodIn_r _ [1014, 242, 106, 107, 108, 109, 110, 111, 112, 113, 737, 738, 739, 5, 740, 658, 271, 272, 273, 274, 1126, 1127, 1128, 1129, 1130, 1131, 1132, 1133, 1134, 1135, 1136, 1137, 1138, 1139, 1140, 1141, 1142, 1143, 1144, 1145, 1146, 1147, 1148, 1149, 1150, 1151, 1152, 1153, 1154, 1155, 1156, 1157, 1158, 1159, 1160, 1161, 1162, 1163, 1164, 1165, 1166, 1167, 1168, 1169, 1170, 1171, 1172, 1173, 1174, 1175, 1176, 1177, 1178, 1179, 1180, 1181, 1182, 1183, 1184, 1185, 1186, 1187, 1188, 1189, 1190, 1191, 1192, 1193, 1194, 1195] (by decide +kernel) (by decide +kernel)
set_option maxRecDepth 20000 in
theorem gL_law__X12_log : GoodIn wsL_law_ (wsV RL 148 RX12 yX12_log wsX12_log) := goodIn_app (goodIn_of _ (by decide +kernel)) ggL_law__X12_log
set_option maxRecDepth 20000 in
theorem ggL_law__X12_order : GoodIn wsL_law_ wsX12_order := goodIn_r _ [987, 242, 93, 961, 118, 119, 120, 121, 267, 268, 269, 5, 270, 243, 271, 272, 273, 274, 1126, 1127, 1128, 1129, 1130, 1131, 1132, 1133, 1134, 1135, 1136, 1137, 1138, 1139, 1140, 1141, 1142, 1143, 1144, 1145, 1146, 1147, 1148, 1149, 1150, 1151, 1152, 1153, 1154, 1155, 1156, 1157, 1158, 1159, 1160, 1161, 1162, 1163, 1164, 1165, 1166, 1167, 1168, 1169, 1170, 1171, 1172, 1173, 1174, 1175, 1176, 1177, 1178, 1179, 1180, 1181, 1182, 1183, 1184, 1185, 1186, 1187, 1188, 1189, 1190, 1191, 1192, 1193, 1194, 1195] (by decide +kernel) (by decide +kernel)
set_option maxRecDepth 20000 in
theorem gL_law__X12_order : GoodIn wsL_law_ (wsV RL 142 RX12 yX12_order wsX12_order) := goodIn_app (goodIn_of _ (by decide +kernel)) ggL_law__X12_order
set_option maxRecDepth 20000 in
theorem ggL_law__X12_wants : GoodIn wsL_law_ wsX12_wants := goodIn_r _ [998, 242, 961, 121, 271, 272, 273, 5, 274, 1126, 1127, 1128, 1129, 1130, 1131, 1132, 1133, 1134, 1135, 1136, 1137, 1138, 1139, 1140, 1141, 1142, 1143, 1144, 1145, 1146, 1147, 1148, 1149, 1150, 1151, 1152, 1153, 1154, 1155, 1156, 1157, 1158, 1159, 1160, 1161, 1162, 1163, 1164, 1165, 1166, 1167, 1168, 1169, 1170, 1171, 1172, 1173, 1174, 1175, 1176, 1177, 1178, 1179, 1180, 1181, 1182, 1183, 1184, 1185, 1186, 1187, 1188, 1189, 1190, 1191, 1192, 1193, 1194, 1195] (by decide +kernel) (by decide +kernel)
set_option maxRecDepth 20000 in
theorem gL_law__X12_wants : GoodIn wsL_law_ (wsV RL 145 RX12 yX12_wants wsX12_wants) := goodIn_app (goodIn_of _ (by decide +kernel)) ggL_law__X12_wants
set_option maxRecDepth 20000 in
theorem ggL_law__X12_water : GoodIn wsL_law_ wsX12_water := goodIn_r _ [1063, 242, 88, 89, 92, 96, 83, 84, 267, 268, 269, 5, 270, 243, 271, 272, 273, 274, 1126, 1127, 1128, 1129, 1130, 1131, 1132, 1133, 1134, 1135, 1136, 1137, 1138, 1139, 1140, 1141, 1142, 1143, 1144, 1145, 1146, 1147, 1148, 1149, 1150, 1151, 1152, 1153, 1154, 1155, 1156, 1157, 1158, 1159, 1160, 1161, 1162, 1163, 1164, 1165, 1166, 1167, 1168, 1169, 1170, 1171, 1172, 1173, 1174, 1175, 1176, 1177, 1178, 1179, 1180, 1181, 1182, 1183, 1184, 1185, 1186, 1187, 1188, 1189, 1190, 1191, 1192, 1193, 1194, 1195] (by decide +kernel) (by decide +kernel)
set_option maxRecDepth 20000 in
theorem gL_law__X12_water : GoodIn wsL_law_ (wsV RL 160 RX12 yX12_water wsX12_water) := goodIn_app (goodIn_of _ (by decide +kernel)) ggL_law__X12_water
set_option maxHeartbeats 8000000 in
set_option maxRecDepth 100000 in
/-- the law's case 13: order -/
theorem lc_order {p : Program} {e : Env} {s : State} {m : MethodId} {below : List Frame} {meth : Method} {c : Code} (l : Launch) (hlt : l.stackTraces = false) {b : Nat} {xs : Nat → Int32} (C0 : lw_At p s m meth c b 6 xs) (e0 : Nat) (dC : Nat → ClassId) (dI : Nat → Nat → Nat) (h g : Nat → Nat) (ca cb : Nat → ClassId) (qo : Nat) (cO : ClassId) (fo : Nat → Int64) {A : Nat → Prop} (hAe : (fun q : Nat => s.heap.size ≤ q) = A) {H : Heap} {locs : List Loc} (hK : va_K (dC, dI) vwCl [(cO, .long)] s) (hP : va_P (dC, dI) vwCl [(h 0, .inr (12, [.ref (h 1), .ref (h 2), .ref (h 3), .ref (h 4), .ref (h 5), .ref (h 6), .ref (h 8), .ref (h 12), .ref (h 11), .int 0, .int 0, .int (-1), .long 0, .long 0])), (h 1, .inr (0, [.int 0, .ref e0, .int 0])), (qo, .inl (cO, 1, .inr (.inl fo))), (g 0, .inr (13, [.ref (g 1), .int 0, .int 0, .int 0, .int 0, .int 0, .int 0, .int 0, .int 0, .int 0, .int (-1), .long 0, .long 0, .ref (g 14), .ref (g 15), .ref (g 16), .ref (g 17), .ref (g 18), .ref (g 19), .ref (g 20), .ref (g 21), .ref (g 22), .ref (g 23), .ref (g 24), .ref (g 25), .ref (g 26), .ref (g 27), .ref (g 28), .ref (g 29), .ref (g 30), .ref (g 31), .ref (g 32), .ref (g 33), .ref (g 34), .ref (g 35), .ref (g 36), .ref (g 37), .ref (g 38), .ref (g 39), .ref (g 40), .ref (g 41), .ref (g 42), .ref (g 43), .ref (g 44), .ref (g 45), .ref (g 46), .ref (g 47), .ref (g 48), .ref (g 49), .ref (g 50), .ref (g 51), .ref (g 52), .ref (g 53), .ref (g 54), .ref (g 55), .ref (g 56), .ref (g 57), .ref (g 58), .ref (g 59), .int 0, .int 0, .int 0, .int 0, .int 0, .int 0, .int 0, .int 0, .int 0, .int 0, .ref (g 70)]))] H) (hD : va_D A [(h 0, .inr (12, [.ref (h 1), .ref (h 2), .ref (h 3), .ref (h 4), .ref (h 5), .ref (h 6), .ref (h 8), .ref (h 12), .ref (h 11), .int 0, .int 0, .int (-1), .long 0, .long 0])), (h 1, .inr (0, [.int 0, .ref e0, .int 0])), (qo, .inl (cO, 1, .inr (.inl fo))), (g 0, .inr (13, [.ref (g 1), .int 0, .int 0, .int 0, .int 0, .int 0, .int 0, .int 0, .int 0, .int 0, .int (-1), .long 0, .long 0, .ref (g 14), .ref (g 15), .ref (g 16), .ref (g 17), .ref (g 18), .ref (g 19), .ref (g 20), .ref (g 21), .ref (g 22), .ref (g 23), .ref (g 24), .ref (g 25), .ref (g 26), .ref (g 27), .ref (g 28), .ref (g 29), .ref (g 30), .ref (g 31), .ref (g 32), .ref (g 33), .ref (g 34), .ref (g 35), .ref (g 36), .ref (g 37), .ref (g 38), .ref (g 39), .ref (g 40), .ref (g 41), .ref (g 42), .ref (g 43), .ref (g 44), .ref (g 45), .ref (g 46), .ref (g 47), .ref (g 48), .ref (g 49), .ref (g 50), .ref (g 51), .ref (g 52), .ref (g 53), .ref (g 54), .ref (g 55), .ref (g 56), .ref (g 57), .ref (g 58), .ref (g 59), .int 0, .int 0, .int 0, .int 0, .int 0, .int 0, .int 0, .int 0, .int 0, .int 0, .ref (g 70)]))]) (hS : va_S A s.heap H locs) (hZ : pz_s e0 A s s.heap) (hV : pz_v s) (hT : pz_t A s s.heap) (ls : Array Slot) (hl : lv_has ls 8 [(4, .int 0), (3, .ref qo), (2, .ref (g 0)), (1, .ref (h 0)), (0, .ref b)]) : W p l e room_1 s m #[Value.ref b] below meth c H locs 300 100000 (lw_Z below #[Value.ref b] s) (F0 m 1009 ls []) := by
  obtain ⟨hx, hb, hr, hml, hown, hts, hX, hbl, hlocks, hgv⟩ := id C0
  have hown : s.vm.findClass RL = some m.cls := hown
  have hts := fun w h => hts w (wsL_law__in w h)
  have hA : ∀ q : Nat, s.heap.size ≤ q → A q := fun q h => by rw [← hAe]; exact h
  have hbA : ¬ A b := by rw [← hAe]; exact Nat.not_le.mpr hbl
  refine lv_aload_n hx hb dL_law__1009 rfl (lv_at hl 3 rfl) ?_
  refine lv_aload_n hx hb dL_law__1010 rfl (lv_at hl 4 rfl) ?_
  refine lv_iload hx hb dL_law__1011 (lv_at hl 0 rfl) ?_
  refine lv_iconst (v := 1) hx hb dL_law__1013 (by decide) ?_
  refine lv_iadd hx hb dL_law__1014 ?_
  refine lv_topi (fun x_1 ex_1 => ?_)
  obtain rfl : x_1 = 1 := ex_1.trans (by decide)
  refine va_sld hx hb hX hbl hbA hS (pz_inK (by decide)) dL_law__1015 ?_
  refine lv_aload_n hx hb dL_law__1016 rfl (lv_at hl 4 rfl) ?_
  refine lv_iload hx hb dL_law__1017 (lv_at hl 0 rfl) ?_
  refine lv_iconst (v := 2) hx hb dL_law__1019 (by decide) ?_
  refine lv_iadd hx hb dL_law__1020 ?_
  refine lv_topi (fun x_2 ex_2 => ?_)
  obtain rfl : x_2 = 2 := ex_2.trans (by decide)
  refine va_sld hx hb hX hbl hbA hS (pz_inK (by decide)) dL_law__1021 ?_
  refine lv_aload_n hx hb dL_law__1022 rfl (lv_at hl 4 rfl) ?_
  refine lv_iload hx hb dL_law__1023 (lv_at hl 0 rfl) ?_
  refine lv_iconst (v := 3) hx hb dL_law__1025 (by decide) ?_
  refine lv_iadd hx hb dL_law__1026 ?_
  refine lv_topi (fun x_3 ex_3 => ?_)
  obtain rfl : x_3 = 3 := ex_3.trans (by decide)
  refine va_sld hx hb hX hbl hbA hS (pz_inK (by decide)) dL_law__1027 ?_
  refine lv_aload_n hx hb dL_law__1028 rfl (lv_at hl 4 rfl) ?_
  refine lv_iload hx hb dL_law__1029 (lv_at hl 0 rfl) ?_
  refine lv_iconst (v := 4) hx hb dL_law__1031 (by decide) ?_
  refine lv_iadd hx hb dL_law__1032 ?_
  refine lv_topi (fun x_4 ex_4 => ?_)
  obtain rfl : x_4 = 4 := ex_4.trans (by decide)
  refine va_sld hx hb hX hbl hbA hS (pz_inK (by decide)) dL_law__1033 ?_
  refine lv_aload_n hx hb dL_law__1034 rfl (lv_at hl 1 rfl) ?_
  have hPc := hP.sub (ws' := [(h 0, .inr (12, [.ref (h 1), .ref (h 2), .ref (h 3), .ref (h 4), .ref (h 5), .ref (h 6), .ref (h 8), .ref (h 12), .ref (h 11), .int 0, .int 0, .int (-1), .long 0, .long 0])), (h 1, .inr (0, [.int 0, .ref e0, .int 0])), (qo, .inl (cO, 1, .inr (.inl fo)))]) [0, 1, 2] rfl
  have hDc := hD.sub (ws' := [(h 0, .inr (12, [.ref (h 1), .ref (h 2), .ref (h 3), .ref (h 4), .ref (h 5), .ref (h 6), .ref (h 8), .ref (h 12), .ref (h 11), .int 0, .int 0, .int (-1), .long 0, .long 0])), (h 1, .inr (0, [.int 0, .ref e0, .int 0])), (qo, .inl (cO, 1, .inr (.inl fo)))]) [0, 1, 2] (by decide) rfl
  have hKc := hK.sub (tys' := [(cO, .long)]) [0] rfl
  have hFc := va_free (wc := [(h 0, .inr (12, [.ref (h 1), .ref (h 2), .ref (h 3), .ref (h 4), .ref (h 5), .ref (h 6), .ref (h 8), .ref (h 12), .ref (h 11), .int 0, .int 0, .int (-1), .long 0, .long 0])), (h 1, .inr (0, [.int 0, .ref e0, .int 0])), (qo, .inl (cO, 1, .inr (.inl fo)))]) hD hS hA [0, 1, 2] rfl
  refine vx_calli (vx_runSX (As := [.ref (h 0), .int (xs (Int32.toNatClampNeg 1)), .int (xs (Int32.toNatClampNeg 2)), .int (xs (Int32.toNatClampNeg 3)), .int (xs (Int32.toNatClampNeg 4)), .ref qo]) (rest := []) ⟨hx, hb, hml, hown, hts⟩ (c_L_order l hlt e0 dC dI H.size h qo cO fo (xs (Int32.toNatClampNeg 1)) (xs (Int32.toNatClampNeg 2)) (xs (Int32.toNatClampNeg 3)) (xs (Int32.toNatClampNeg 4))) (vx_cwSW 6 hts gL_law__L_order rfl rfl rfl (by decide +kernel) ⟨Nat.le_of_ble_eq_true rfl, Nat.le_of_ble_eq_true rfl⟩) (pz_preS [.ref (h 0), .int (xs (Int32.toNatClampNeg 1)), .int (xs (Int32.toNatClampNeg 2)), .int (xs (Int32.toNatClampNeg 3)), .int (xs (Int32.toNatClampNeg 4)), .ref qo] hPc hDc hKc hZ hV hT hS hFc) rfl rfl hl.1 rfl (lv_room (Nat.le_of_ble_eq_true rfl)) dL_law__1035 ⟨Nat.le_of_ble_eq_true rfl, Nat.le_of_ble_eq_true rfl⟩) hS (fun q _ h => hFc q h) hFc (fun q _ h => hFc q h) (fun E ce qx_9 u_6 t H locs ht hvm hpx hE hz1 hk1 hS hce hcv hcl => ?_) (fun r_5 u_6 t H locs ht hvm hw_7 hB_8 hz1 hk1 hS => ?_)
  ·
    exact hpx.elim
  ·
    obtain ⟨hP, hD⟩ := pz_rest (wr := [(g 0, .inr (13, [.ref (g 1), .int 0, .int 0, .int 0, .int 0, .int 0, .int 0, .int 0, .int 0, .int 0, .int (-1), .long 0, .long 0, .ref (g 14), .ref (g 15), .ref (g 16), .ref (g 17), .ref (g 18), .ref (g 19), .ref (g 20), .ref (g 21), .ref (g 22), .ref (g 23), .ref (g 24), .ref (g 25), .ref (g 26), .ref (g 27), .ref (g 28), .ref (g 29), .ref (g 30), .ref (g 31), .ref (g 32), .ref (g 33), .ref (g 34), .ref (g 35), .ref (g 36), .ref (g 37), .ref (g 38), .ref (g 39), .ref (g 40), .ref (g 41), .ref (g 42), .ref (g 43), .ref (g 44), .ref (g 45), .ref (g 46), .ref (g 47), .ref (g 48), .ref (g 49), .ref (g 50), .ref (g 51), .ref (g 52), .ref (g 53), .ref (g 54), .ref (g 55), .ref (g 56), .ref (g 57), .ref (g 58), .ref (g 59), .int 0, .int 0, .int 0, .int 0, .int 0, .int 0, .int 0, .int 0, .int 0, .int 0, .ref (g 70)]))]) hP hD [0, 1, 2] [3] rfl rfl (by decide) (by decide) hk1 hFc
    subst hw_7
    refine lv_istore (lv' := [(5, .int 1), (4, .int 0), (3, .ref qo), (2, .ref (g 0)), (1, .ref (h 0)), (0, .ref b)]) hx hb dL_law__1038 hl (by decide) rfl (fun ls hl => ?_)
    refine lv_aload_n hx hb dL_law__1040 rfl (lv_at hl 3 rfl) ?_
    refine lv_aload_n hx hb dL_law__1041 rfl (lv_at hl 5 rfl) ?_
    refine lv_iload hx hb dL_law__1042 (lv_at hl 1 rfl) ?_
    refine lv_iconst (v := 1) hx hb dL_law__1044 (by decide) ?_
    refine lv_iadd hx hb dL_law__1045 ?_
    refine lv_topi (fun x_10 ex_10 => ?_)
    obtain rfl : x_10 = 1 := ex_10.trans (by decide)
    refine va_sld hx hb hX hbl hbA hS (pz_inK (by decide)) dL_law__1046 ?_
    refine lv_aload_n hx hb dL_law__1047 rfl (lv_at hl 5 rfl) ?_
    refine lv_iload hx hb dL_law__1048 (lv_at hl 1 rfl) ?_
    refine lv_iconst (v := 2) hx hb dL_law__1050 (by decide) ?_
    refine lv_iadd hx hb dL_law__1051 ?_
    refine lv_topi (fun x_11 ex_11 => ?_)
    obtain rfl : x_11 = 2 := ex_11.trans (by decide)
    refine va_sld hx hb hX hbl hbA hS (pz_inK (by decide)) dL_law__1052 ?_
    refine lv_aload_n hx hb dL_law__1053 rfl (lv_at hl 5 rfl) ?_
    refine lv_iload hx hb dL_law__1054 (lv_at hl 1 rfl) ?_
    refine lv_iconst (v := 3) hx hb dL_law__1056 (by decide) ?_
    refine lv_iadd hx hb dL_law__1057 ?_
    refine lv_topi (fun x_12 ex_12 => ?_)
    obtain rfl : x_12 = 3 := ex_12.trans (by decide)
    refine va_sld hx hb hX hbl hbA hS (pz_inK (by decide)) dL_law__1058 ?_
    refine lv_aload_n hx hb dL_law__1059 rfl (lv_at hl 5 rfl) ?_
    refine lv_iload hx hb dL_law__1060 (lv_at hl 1 rfl) ?_
    refine lv_iconst (v := 4) hx hb dL_law__1062 (by decide) ?_
    refine lv_iadd hx hb dL_law__1063 ?_
    refine lv_topi (fun x_13 ex_13 => ?_)
    obtain rfl : x_13 = 4 := ex_13.trans (by decide)
    refine va_sld hx hb hX hbl hbA hS (pz_inK (by decide)) dL_law__1064 ?_
    have hPc := hP.sub (ws' := [(g 0, .inr (13, [.ref (g 1), .int 0, .int 0, .int 0, .int 0, .int 0, .int 0, .int 0, .int 0, .int 0, .int (-1), .long 0, .long 0, .ref (g 14), .ref (g 15), .ref (g 16), .ref (g 17), .ref (g 18), .ref (g 19), .ref (g 20), .ref (g 21), .ref (g 22), .ref (g 23), .ref (g 24), .ref (g 25), .ref (g 26), .ref (g 27), .ref (g 28), .ref (g 29), .ref (g 30), .ref (g 31), .ref (g 32), .ref (g 33), .ref (g 34), .ref (g 35), .ref (g 36), .ref (g 37), .ref (g 38), .ref (g 39), .ref (g 40), .ref (g 41), .ref (g 42), .ref (g 43), .ref (g 44), .ref (g 45), .ref (g 46), .ref (g 47), .ref (g 48), .ref (g 49), .ref (g 50), .ref (g 51), .ref (g 52), .ref (g 53), .ref (g 54), .ref (g 55), .ref (g 56), .ref (g 57), .ref (g 58), .ref (g 59), .int 0, .int 0, .int 0, .int 0, .int 0, .int 0, .int 0, .int 0, .int 0, .int 0, .ref (g 70)]))]) [0] rfl
    have hDc := hD.sub (ws' := [(g 0, .inr (13, [.ref (g 1), .int 0, .int 0, .int 0, .int 0, .int 0, .int 0, .int 0, .int 0, .int 0, .int (-1), .long 0, .long 0, .ref (g 14), .ref (g 15), .ref (g 16), .ref (g 17), .ref (g 18), .ref (g 19), .ref (g 20), .ref (g 21), .ref (g 22), .ref (g 23), .ref (g 24), .ref (g 25), .ref (g 26), .ref (g 27), .ref (g 28), .ref (g 29), .ref (g 30), .ref (g 31), .ref (g 32), .ref (g 33), .ref (g 34), .ref (g 35), .ref (g 36), .ref (g 37), .ref (g 38), .ref (g 39), .ref (g 40), .ref (g 41), .ref (g 42), .ref (g 43), .ref (g 44), .ref (g 45), .ref (g 46), .ref (g 47), .ref (g 48), .ref (g 49), .ref (g 50), .ref (g 51), .ref (g 52), .ref (g 53), .ref (g 54), .ref (g 55), .ref (g 56), .ref (g 57), .ref (g 58), .ref (g 59), .int 0, .int 0, .int 0, .int 0, .int 0, .int 0, .int 0, .int 0, .int 0, .int 0, .ref (g 70)]))]) [0] (by decide) rfl
    have hKc := hK.sub (tys' := []) [] rfl
    have hFc := va_free (wc := [(g 0, .inr (13, [.ref (g 1), .int 0, .int 0, .int 0, .int 0, .int 0, .int 0, .int 0, .int 0, .int 0, .int (-1), .long 0, .long 0, .ref (g 14), .ref (g 15), .ref (g 16), .ref (g 17), .ref (g 18), .ref (g 19), .ref (g 20), .ref (g 21), .ref (g 22), .ref (g 23), .ref (g 24), .ref (g 25), .ref (g 26), .ref (g 27), .ref (g 28), .ref (g 29), .ref (g 30), .ref (g 31), .ref (g 32), .ref (g 33), .ref (g 34), .ref (g 35), .ref (g 36), .ref (g 37), .ref (g 38), .ref (g 39), .ref (g 40), .ref (g 41), .ref (g 42), .ref (g 43), .ref (g 44), .ref (g 45), .ref (g 46), .ref (g 47), .ref (g 48), .ref (g 49), .ref (g 50), .ref (g 51), .ref (g 52), .ref (g 53), .ref (g 54), .ref (g 55), .ref (g 56), .ref (g 57), .ref (g 58), .ref (g 59), .int 0, .int 0, .int 0, .int 0, .int 0, .int 0, .int 0, .int 0, .int 0, .int 0, .ref (g 70)]))]) hD hS hA [0] rfl
    refine va_calli (va_runV (As := [.int (xs (Int32.toNatClampNeg 1)), .int (xs (Int32.toNatClampNeg 2)), .int (xs (Int32.toNatClampNeg 3)), .int (xs (Int32.toNatClampNeg 4))]) (rest := []) ⟨hx, hb, hml, hown, hts⟩ (c_X12_order l hlt e0 dC dI H.size g (xs (Int32.toNatClampNeg 1)) (xs (Int32.toNatClampNeg 2)) (xs (Int32.toNatClampNeg 3)) (xs (Int32.toNatClampNeg 4))) (cwV 4 hts gL_law__X12_order rfl rfl rfl (by decide +kernel) ⟨Nat.le_of_ble_eq_true rfl, Nat.le_of_ble_eq_true rfl⟩) (pz_preV [.int (xs (Int32.toNatClampNeg 1)), .int (xs (Int32.toNatClampNeg 2)), .int (xs (Int32.toNatClampNeg 3)), .int (xs (Int32.toNatClampNeg 4))] hPc hDc hKc hZ hV hT hS hFc (va_recv hKc hPc (ci := 13) (q0 := 0) rfl rfl)) rfl rfl hl.1 rfl (lv_room (Nat.le_of_ble_eq_true rfl)) dL_law__1065 ⟨Nat.le_of_ble_eq_true rfl, Nat.le_of_ble_eq_true rfl⟩) hS (fun q _ h => hFc q h) hFc (fun r_14 u_15 t H locs ht hvm hw_16 hB_17 hz1 hk1 hS => ?_)
    obtain ⟨hP1, hD1⟩ := hB_17
    rw [ht] at hP1
    obtain ⟨hP, hD⟩ := va_join (wr := []) (w1 := [(g 0, .inr (13, u_15))]) hP hD [0] [] rfl rfl (by decide) (by decide) hk1 hFc hP1 hD1
    have hP : va_P (dC, dI) vwCl [(g 0, .inr (13, u_15))] H := hP
    have hD : va_D A [(g 0, .inr (13, u_15))] := hD
    refine lv_istore (lv' := [(6, .int r_14), (5, .int 1), (4, .int 0), (3, .ref qo), (2, .ref (g 0)), (1, .ref (h 0)), (0, .ref b)]) hx hb dL_law__1068 hl (by decide) rfl (fun ls hl => ?_)
    refine lv_aload_n hx hb dL_law__1070 rfl (lv_at hl 4 rfl) ?_
    have hPc := hP.sub (ws' := [(g 0, .inr (13, u_15))]) [0] rfl
    have hDc := hD.sub (ws' := [(g 0, .inr (13, u_15))]) [0] (by decide) rfl
    have hKc := hK.sub (tys' := []) [] rfl
    have hFc := va_free (wc := [(g 0, .inr (13, u_15))]) hD hS hA [0] rfl
    refine va_calli (va_runV (As := []) (rest := []) ⟨hx, hb, hml, hown, hts⟩ (c_X12_thrown l hlt e0 dC dI H.size (g 0) u_15 1 hw_16) (cwV 0 hts gL_law__X12_thrown rfl rfl rfl (by decide +kernel) ⟨Nat.le_of_ble_eq_true rfl, Nat.le_of_ble_eq_true rfl⟩) (pz_preV [] hPc hDc hKc hZ hV hT hS hFc (va_recv hKc hPc (ci := 13) (q0 := 0) rfl rfl)) rfl rfl hl.1 rfl (lv_room (Nat.le_of_ble_eq_true rfl)) dL_law__1071 ⟨Nat.le_of_ble_eq_true rfl, Nat.le_of_ble_eq_true rfl⟩) hS (fun q _ h => hFc q h) hFc (fun r_18 u_19 t H locs ht hvm hw_20 hB_21 hz1 hk1 hS => ?_)
    obtain ⟨hP, hD⟩ := pz_rest (wr := []) hP hD [0] [] rfl rfl (by decide) (by decide) hk1 hFc
    subst hw_20
    refine lv_iload hx hb dL_law__1074 (lv_at hl 1 rfl) ?_
    refine lv_icmp_eq (tgt := 1081) hx hb dL_law__1076 (by decide) (fun c_22 => ?_) (fun c_22 => ?_)
    rotate_left
    · exact absurd c_22 (by decide)
    refine lv_iload hx hb dL_law__1081 (lv_at hl 1 rfl) ?_
    refine lv_if_ne (tgt := 1098) hx hb dL_law__1083 (by decide) (fun c_23 => ?_) (fun c_23 => ?_)
    rotate_left
    · exact absurd c_23 (by decide)
    refine lv_goto (tgt := 1743) hx hb dL_law__1098 (by decide) ?_
    exact lc_end l C0 (Nat.le_of_ble_eq_true rfl) (Nat.le_of_ble_eq_true rfl) hAe hS ls (lv_sub hl [2, 6] rfl)
set_option maxHeartbeats 8000000 in
set_option maxRecDepth 100000 in
/-- the law's case 14: wants -/
theorem lc_wants {p : Program} {e : Env} {s : State} {m : MethodId} {below : List Frame} {meth : Method} {c : Code} (l : Launch) (hlt : l.stackTraces = false) {b : Nat} {xs : Nat → Int32} (C0 : lw_At p s m meth c b 6 xs) (e0 : Nat) (dC : Nat → ClassId) (dI : Nat → Nat → Nat) (h g : Nat → Nat) (ca cb : Nat → ClassId) (qo : Nat) (cO : ClassId) (fo : Nat → Int64) {A : Nat → Prop} (hAe : (fun q : Nat => s.heap.size ≤ q) = A) {H : Heap} {locs : List Loc} (hK : va_K (dC, dI) vwCl [(cO, .long)] s) (hP : va_P (dC, dI) vwCl [(h 0, .inr (12, [.ref (h 1), .ref (h 2), .ref (h 3), .ref (h 4), .ref (h 5), .ref (h 6), .ref (h 8), .ref (h 12), .ref (h 11), .int 0, .int 0, .int (-1), .long 0, .long 0])), (h 5, .inr (0, [.int 0, .ref e0, .int 0])), (qo, .inl (cO, 1, .inr (.inl fo))), (g 0, .inr (13, [.ref (g 1), .int 0, .int 0, .int 0, .int 0, .int 0, .int 0, .int 0, .int 0, .int 0, .int (-1), .long 0, .long 0, .ref (g 14), .ref (g 15), .ref (g 16), .ref (g 17), .ref (g 18), .ref (g 19), .ref (g 20), .ref (g 21), .ref (g 22), .ref (g 23), .ref (g 24), .ref (g 25), .ref (g 26), .ref (g 27), .ref (g 28), .ref (g 29), .ref (g 30), .ref (g 31), .ref (g 32), .ref (g 33), .ref (g 34), .ref (g 35), .ref (g 36), .ref (g 37), .ref (g 38), .ref (g 39), .ref (g 40), .ref (g 41), .ref (g 42), .ref (g 43), .ref (g 44), .ref (g 45), .ref (g 46), .ref (g 47), .ref (g 48), .ref (g 49), .ref (g 50), .ref (g 51), .ref (g 52), .ref (g 53), .ref (g 54), .ref (g 55), .ref (g 56), .ref (g 57), .ref (g 58), .ref (g 59), .int 0, .int 0, .int 0, .int 0, .int 0, .int 0, .int 0, .int 0, .int 0, .int 0, .ref (g 70)]))] H) (hD : va_D A [(h 0, .inr (12, [.ref (h 1), .ref (h 2), .ref (h 3), .ref (h 4), .ref (h 5), .ref (h 6), .ref (h 8), .ref (h 12), .ref (h 11), .int 0, .int 0, .int (-1), .long 0, .long 0])), (h 5, .inr (0, [.int 0, .ref e0, .int 0])), (qo, .inl (cO, 1, .inr (.inl fo))), (g 0, .inr (13, [.ref (g 1), .int 0, .int 0, .int 0, .int 0, .int 0, .int 0, .int 0, .int 0, .int 0, .int (-1), .long 0, .long 0, .ref (g 14), .ref (g 15), .ref (g 16), .ref (g 17), .ref (g 18), .ref (g 19), .ref (g 20), .ref (g 21), .ref (g 22), .ref (g 23), .ref (g 24), .ref (g 25), .ref (g 26), .ref (g 27), .ref (g 28), .ref (g 29), .ref (g 30), .ref (g 31), .ref (g 32), .ref (g 33), .ref (g 34), .ref (g 35), .ref (g 36), .ref (g 37), .ref (g 38), .ref (g 39), .ref (g 40), .ref (g 41), .ref (g 42), .ref (g 43), .ref (g 44), .ref (g 45), .ref (g 46), .ref (g 47), .ref (g 48), .ref (g 49), .ref (g 50), .ref (g 51), .ref (g 52), .ref (g 53), .ref (g 54), .ref (g 55), .ref (g 56), .ref (g 57), .ref (g 58), .ref (g 59), .int 0, .int 0, .int 0, .int 0, .int 0, .int 0, .int 0, .int 0, .int 0, .int 0, .ref (g 70)]))]) (hS : va_S A s.heap H locs) (hZ : pz_s e0 A s s.heap) (hV : pz_v s) (hT : pz_t A s s.heap) (ls : Array Slot) (hl : lv_has ls 8 [(4, .int 0), (3, .ref qo), (2, .ref (g 0)), (1, .ref (h 0)), (0, .ref b)]) : W p l e room_1 s m #[Value.ref b] below meth c H locs 300 100000 (lw_Z below #[Value.ref b] s) (F0 m 1101 ls []) := by
  obtain ⟨hx, hb, hr, hml, hown, hts, hX, hbl, hlocks, hgv⟩ := id C0
  have hown : s.vm.findClass RL = some m.cls := hown
  have hts := fun w h => hts w (wsL_law__in w h)
  have hA : ∀ q : Nat, s.heap.size ≤ q → A q := fun q h => by rw [← hAe]; exact h
  have hbA : ¬ A b := by rw [← hAe]; exact Nat.not_le.mpr hbl
  refine lv_aload_n hx hb dL_law__1101 rfl (lv_at hl 3 rfl) ?_
  refine lv_aload_n hx hb dL_law__1102 rfl (lv_at hl 4 rfl) ?_
  refine lv_iload hx hb dL_law__1103 (lv_at hl 0 rfl) ?_
  refine lv_iconst (v := 1) hx hb dL_law__1105 (by decide) ?_
  refine lv_iadd hx hb dL_law__1106 ?_
  refine lv_topi (fun x_1 ex_1 => ?_)
  obtain rfl : x_1 = 1 := ex_1.trans (by decide)
  refine va_sld hx hb hX hbl hbA hS (pz_inK (by decide)) dL_law__1107 ?_
  refine lv_aload_n hx hb dL_law__1108 rfl (lv_at hl 1 rfl) ?_
  have hPc := hP.sub (ws' := [(h 0, .inr (12, [.ref (h 1), .ref (h 2), .ref (h 3), .ref (h 4), .ref (h 5), .ref (h 6), .ref (h 8), .ref (h 12), .ref (h 11), .int 0, .int 0, .int (-1), .long 0, .long 0])), (h 5, .inr (0, [.int 0, .ref e0, .int 0])), (qo, .inl (cO, 1, .inr (.inl fo)))]) [0, 1, 2] rfl
  have hDc := hD.sub (ws' := [(h 0, .inr (12, [.ref (h 1), .ref (h 2), .ref (h 3), .ref (h 4), .ref (h 5), .ref (h 6), .ref (h 8), .ref (h 12), .ref (h 11), .int 0, .int 0, .int (-1), .long 0, .long 0])), (h 5, .inr (0, [.int 0, .ref e0, .int 0])), (qo, .inl (cO, 1, .inr (.inl fo)))]) [0, 1, 2] (by decide) rfl
  have hKc := hK.sub (tys' := [(cO, .long)]) [0] rfl
  have hFc := va_free (wc := [(h 0, .inr (12, [.ref (h 1), .ref (h 2), .ref (h 3), .ref (h 4), .ref (h 5), .ref (h 6), .ref (h 8), .ref (h 12), .ref (h 11), .int 0, .int 0, .int (-1), .long 0, .long 0])), (h 5, .inr (0, [.int 0, .ref e0, .int 0])), (qo, .inl (cO, 1, .inr (.inl fo)))]) hD hS hA [0, 1, 2] rfl
  refine vx_calli (vx_runSX (As := [.ref (h 0), .int (xs (Int32.toNatClampNeg 1)), .ref qo]) (rest := []) ⟨hx, hb, hml, hown, hts⟩ (c_L_wants l hlt e0 dC dI H.size h qo cO fo (xs (Int32.toNatClampNeg 1))) (vx_cwSW 3 hts gL_law__L_wants rfl rfl rfl (by decide +kernel) ⟨Nat.le_of_ble_eq_true rfl, Nat.le_of_ble_eq_true rfl⟩) (pz_preS [.ref (h 0), .int (xs (Int32.toNatClampNeg 1)), .ref qo] hPc hDc hKc hZ hV hT hS hFc) rfl rfl hl.1 rfl (lv_room (Nat.le_of_ble_eq_true rfl)) dL_law__1109 ⟨Nat.le_of_ble_eq_true rfl, Nat.le_of_ble_eq_true rfl⟩) hS (fun q _ h => hFc q h) hFc (fun q _ h => hFc q h) (fun E ce qx_6 u_3 t H locs ht hvm hpx hE hz1 hk1 hS hce hcv hcl => ?_) (fun r_2 u_3 t H locs ht hvm hw_4 hB_5 hz1 hk1 hS => ?_)
  ·
    exact hpx.elim
  ·
    obtain ⟨hP, hD⟩ := pz_rest (wr := [(g 0, .inr (13, [.ref (g 1), .int 0, .int 0, .int 0, .int 0, .int 0, .int 0, .int 0, .int 0, .int 0, .int (-1), .long 0, .long 0, .ref (g 14), .ref (g 15), .ref (g 16), .ref (g 17), .ref (g 18), .ref (g 19), .ref (g 20), .ref (g 21), .ref (g 22), .ref (g 23), .ref (g 24), .ref (g 25), .ref (g 26), .ref (g 27), .ref (g 28), .ref (g 29), .ref (g 30), .ref (g 31), .ref (g 32), .ref (g 33), .ref (g 34), .ref (g 35), .ref (g 36), .ref (g 37), .ref (g 38), .ref (g 39), .ref (g 40), .ref (g 41), .ref (g 42), .ref (g 43), .ref (g 44), .ref (g 45), .ref (g 46), .ref (g 47), .ref (g 48), .ref (g 49), .ref (g 50), .ref (g 51), .ref (g 52), .ref (g 53), .ref (g 54), .ref (g 55), .ref (g 56), .ref (g 57), .ref (g 58), .ref (g 59), .int 0, .int 0, .int 0, .int 0, .int 0, .int 0, .int 0, .int 0, .int 0, .int 0, .ref (g 70)]))]) hP hD [0, 1, 2] [3] rfl rfl (by decide) (by decide) hk1 hFc
    subst hw_4
    refine lv_istore (lv' := [(5, .int 1), (4, .int 0), (3, .ref qo), (2, .ref (g 0)), (1, .ref (h 0)), (0, .ref b)]) hx hb dL_law__1112 hl (by decide) rfl (fun ls hl => ?_)
    refine lv_aload_n hx hb dL_law__1114 rfl (lv_at hl 3 rfl) ?_
    refine lv_aload_n hx hb dL_law__1115 rfl (lv_at hl 5 rfl) ?_
    refine lv_iload hx hb dL_law__1116 (lv_at hl 1 rfl) ?_
    refine lv_iconst (v := 1) hx hb dL_law__1118 (by decide) ?_
    refine lv_iadd hx hb dL_law__1119 ?_
    refine lv_topi (fun x_7 ex_7 => ?_)
    obtain rfl : x_7 = 1 := ex_7.trans (by decide)
    refine va_sld hx hb hX hbl hbA hS (pz_inK (by decide)) dL_law__1120 ?_
    have hPc := hP.sub (ws' := [(g 0, .inr (13, [.ref (g 1), .int 0, .int 0, .int 0, .int 0, .int 0, .int 0, .int 0, .int 0, .int 0, .int (-1), .long 0, .long 0, .ref (g 14), .ref (g 15), .ref (g 16), .ref (g 17), .ref (g 18), .ref (g 19), .ref (g 20), .ref (g 21), .ref (g 22), .ref (g 23), .ref (g 24), .ref (g 25), .ref (g 26), .ref (g 27), .ref (g 28), .ref (g 29), .ref (g 30), .ref (g 31), .ref (g 32), .ref (g 33), .ref (g 34), .ref (g 35), .ref (g 36), .ref (g 37), .ref (g 38), .ref (g 39), .ref (g 40), .ref (g 41), .ref (g 42), .ref (g 43), .ref (g 44), .ref (g 45), .ref (g 46), .ref (g 47), .ref (g 48), .ref (g 49), .ref (g 50), .ref (g 51), .ref (g 52), .ref (g 53), .ref (g 54), .ref (g 55), .ref (g 56), .ref (g 57), .ref (g 58), .ref (g 59), .int 0, .int 0, .int 0, .int 0, .int 0, .int 0, .int 0, .int 0, .int 0, .int 0, .ref (g 70)]))]) [0] rfl
    have hDc := hD.sub (ws' := [(g 0, .inr (13, [.ref (g 1), .int 0, .int 0, .int 0, .int 0, .int 0, .int 0, .int 0, .int 0, .int 0, .int (-1), .long 0, .long 0, .ref (g 14), .ref (g 15), .ref (g 16), .ref (g 17), .ref (g 18), .ref (g 19), .ref (g 20), .ref (g 21), .ref (g 22), .ref (g 23), .ref (g 24), .ref (g 25), .ref (g 26), .ref (g 27), .ref (g 28), .ref (g 29), .ref (g 30), .ref (g 31), .ref (g 32), .ref (g 33), .ref (g 34), .ref (g 35), .ref (g 36), .ref (g 37), .ref (g 38), .ref (g 39), .ref (g 40), .ref (g 41), .ref (g 42), .ref (g 43), .ref (g 44), .ref (g 45), .ref (g 46), .ref (g 47), .ref (g 48), .ref (g 49), .ref (g 50), .ref (g 51), .ref (g 52), .ref (g 53), .ref (g 54), .ref (g 55), .ref (g 56), .ref (g 57), .ref (g 58), .ref (g 59), .int 0, .int 0, .int 0, .int 0, .int 0, .int 0, .int 0, .int 0, .int 0, .int 0, .ref (g 70)]))]) [0] (by decide) rfl
    have hKc := hK.sub (tys' := []) [] rfl
    have hFc := va_free (wc := [(g 0, .inr (13, [.ref (g 1), .int 0, .int 0, .int 0, .int 0, .int 0, .int 0, .int 0, .int 0, .int 0, .int (-1), .long 0, .long 0, .ref (g 14), .ref (g 15), .ref (g 16), .ref (g 17), .ref (g 18), .ref (g 19), .ref (g 20), .ref (g 21), .ref (g 22), .ref (g 23), .ref (g 24), .ref (g 25), .ref (g 26), .ref (g 27), .ref (g 28), .ref (g 29), .ref (g 30), .ref (g 31), .ref (g 32), .ref (g 33), .ref (g 34), .ref (g 35), .ref (g 36), .ref (g 37), .ref (g 38), .ref (g 39), .ref (g 40), .ref (g 41), .ref (g 42), .ref (g 43), .ref (g 44), .ref (g 45), .ref (g 46), .ref (g 47), .ref (g 48), .ref (g 49), .ref (g 50), .ref (g 51), .ref (g 52), .ref (g 53), .ref (g 54), .ref (g 55), .ref (g 56), .ref (g 57), .ref (g 58), .ref (g 59), .int 0, .int 0, .int 0, .int 0, .int 0, .int 0, .int 0, .int 0, .int 0, .int 0, .ref (g 70)]))]) hD hS hA [0] rfl
    refine va_calli (va_runV (As := [.int (xs (Int32.toNatClampNeg 1))]) (rest := []) ⟨hx, hb, hml, hown, hts⟩ (c_X12_wants l hlt e0 dC dI H.size g (xs (Int32.toNatClampNeg 1))) (cwV 1 hts gL_law__X12_wants rfl rfl rfl (by decide +kernel) ⟨Nat.le_of_ble_eq_true rfl, Nat.le_of_ble_eq_true rfl⟩) (pz_preV [.int (xs (Int32.toNatClampNeg 1))] hPc hDc hKc hZ hV hT hS hFc (va_recv hKc hPc (ci := 13) (q0 := 0) rfl rfl)) rfl rfl hl.1 rfl (lv_room (Nat.le_of_ble_eq_true rfl)) dL_law__1121 ⟨Nat.le_of_ble_eq_true rfl, Nat.le_of_ble_eq_true rfl⟩) hS (fun q _ h => hFc q h) hFc (fun r_8 u_9 t H locs ht hvm hw_10 hB_11 hz1 hk1 hS => ?_)
    obtain ⟨hP1, hD1⟩ := hB_11
    rw [ht] at hP1
    obtain ⟨hP, hD⟩ := va_join (wr := []) (w1 := [(g 0, .inr (13, u_9))]) hP hD [0] [] rfl rfl (by decide) (by decide) hk1 hFc hP1 hD1
    have hP : va_P (dC, dI) vwCl [(g 0, .inr (13, u_9))] H := hP
    have hD : va_D A [(g 0, .inr (13, u_9))] := hD
    refine lv_istore (lv' := [(6, .int r_8), (5, .int 1), (4, .int 0), (3, .ref qo), (2, .ref (g 0)), (1, .ref (h 0)), (0, .ref b)]) hx hb dL_law__1124 hl (by decide) rfl (fun ls hl => ?_)
    refine lv_aload_n hx hb dL_law__1126 rfl (lv_at hl 4 rfl) ?_
    have hPc := hP.sub (ws' := [(g 0, .inr (13, u_9))]) [0] rfl
    have hDc := hD.sub (ws' := [(g 0, .inr (13, u_9))]) [0] (by decide) rfl
    have hKc := hK.sub (tys' := []) [] rfl
    have hFc := va_free (wc := [(g 0, .inr (13, u_9))]) hD hS hA [0] rfl
    refine va_calli (va_runV (As := []) (rest := []) ⟨hx, hb, hml, hown, hts⟩ (c_X12_thrown l hlt e0 dC dI H.size (g 0) u_9 1 hw_10) (cwV 0 hts gL_law__X12_thrown rfl rfl rfl (by decide +kernel) ⟨Nat.le_of_ble_eq_true rfl, Nat.le_of_ble_eq_true rfl⟩) (pz_preV [] hPc hDc hKc hZ hV hT hS hFc (va_recv hKc hPc (ci := 13) (q0 := 0) rfl rfl)) rfl rfl hl.1 rfl (lv_room (Nat.le_of_ble_eq_true rfl)) dL_law__1127 ⟨Nat.le_of_ble_eq_true rfl, Nat.le_of_ble_eq_true rfl⟩) hS (fun q _ h => hFc q h) hFc (fun r_12 u_13 t H locs ht hvm hw_14 hB_15 hz1 hk1 hS => ?_)
    obtain ⟨hP, hD⟩ := pz_rest (wr := []) hP hD [0] [] rfl rfl (by decide) (by decide) hk1 hFc
    subst hw_14
    refine lv_iload hx hb dL_law__1130 (lv_at hl 1 rfl) ?_
    refine lv_icmp_eq (tgt := 1137) hx hb dL_law__1132 (by decide) (fun c_16 => ?_) (fun c_16 => ?_)
    rotate_left
    · exact absurd c_16 (by decide)
    refine lv_iload hx hb dL_law__1137 (lv_at hl 1 rfl) ?_
    refine lv_if_ne (tgt := 1154) hx hb dL_law__1139 (by decide) (fun c_17 => ?_) (fun c_17 => ?_)
    rotate_left
    · exact absurd c_17 (by decide)
    refine lv_goto (tgt := 1743) hx hb dL_law__1154 (by decide) ?_
    exact lc_end l C0 (Nat.le_of_ble_eq_true rfl) (Nat.le_of_ble_eq_true rfl) hAe hS ls (lv_sub hl [2, 6] rfl)
set_option maxHeartbeats 8000000 in
set_option maxRecDepth 100000 in
/-- the law's case 15: log -/
theorem lc_log {p : Program} {e : Env} {s : State} {m : MethodId} {below : List Frame} {meth : Method} {c : Code} (l : Launch) (hlt : l.stackTraces = false) {b : Nat} {xs : Nat → Int32} (C0 : lw_At p s m meth c b 6 xs) (e0 : Nat) (dC : Nat → ClassId) (dI : Nat → Nat → Nat) (h g : Nat → Nat) (ca cb : Nat → ClassId) (qo : Nat) (cO : ClassId) (fo : Nat → Int64) {A : Nat → Prop} (hAe : (fun q : Nat => s.heap.size ≤ q) = A) {H : Heap} {locs : List Loc} (hK : va_K (dC, dI) vwCl [(cO, .long)] s) (hP : va_P (dC, dI) vwCl [(h 0, .inr (12, [.ref (h 1), .ref (h 2), .ref (h 3), .ref (h 4), .ref (h 5), .ref (h 6), .ref (h 8), .ref (h 12), .ref (h 11), .int 0, .int 0, .int (-1), .long 0, .long 0])), (h 2, .inr (0, [.int 0, .ref e0, .int 0])), (qo, .inl (cO, 1, .inr (.inl fo))), (g 0, .inr (13, [.ref (g 1), .int 0, .int 0, .int 0, .int 0, .int 0, .int 0, .int 0, .int 0, .int 0, .int (-1), .long 0, .long 0, .ref (g 14), .ref (g 15), .ref (g 16), .ref (g 17), .ref (g 18), .ref (g 19), .ref (g 20), .ref (g 21), .ref (g 22), .ref (g 23), .ref (g 24), .ref (g 25), .ref (g 26), .ref (g 27), .ref (g 28), .ref (g 29), .ref (g 30), .ref (g 31), .ref (g 32), .ref (g 33), .ref (g 34), .ref (g 35), .ref (g 36), .ref (g 37), .ref (g 38), .ref (g 39), .ref (g 40), .ref (g 41), .ref (g 42), .ref (g 43), .ref (g 44), .ref (g 45), .ref (g 46), .ref (g 47), .ref (g 48), .ref (g 49), .ref (g 50), .ref (g 51), .ref (g 52), .ref (g 53), .ref (g 54), .ref (g 55), .ref (g 56), .ref (g 57), .ref (g 58), .ref (g 59), .int 0, .int 0, .int 0, .int 0, .int 0, .int 0, .int 0, .int 0, .int 0, .int 0, .ref (g 70)]))] H) (hD : va_D A [(h 0, .inr (12, [.ref (h 1), .ref (h 2), .ref (h 3), .ref (h 4), .ref (h 5), .ref (h 6), .ref (h 8), .ref (h 12), .ref (h 11), .int 0, .int 0, .int (-1), .long 0, .long 0])), (h 2, .inr (0, [.int 0, .ref e0, .int 0])), (qo, .inl (cO, 1, .inr (.inl fo))), (g 0, .inr (13, [.ref (g 1), .int 0, .int 0, .int 0, .int 0, .int 0, .int 0, .int 0, .int 0, .int 0, .int (-1), .long 0, .long 0, .ref (g 14), .ref (g 15), .ref (g 16), .ref (g 17), .ref (g 18), .ref (g 19), .ref (g 20), .ref (g 21), .ref (g 22), .ref (g 23), .ref (g 24), .ref (g 25), .ref (g 26), .ref (g 27), .ref (g 28), .ref (g 29), .ref (g 30), .ref (g 31), .ref (g 32), .ref (g 33), .ref (g 34), .ref (g 35), .ref (g 36), .ref (g 37), .ref (g 38), .ref (g 39), .ref (g 40), .ref (g 41), .ref (g 42), .ref (g 43), .ref (g 44), .ref (g 45), .ref (g 46), .ref (g 47), .ref (g 48), .ref (g 49), .ref (g 50), .ref (g 51), .ref (g 52), .ref (g 53), .ref (g 54), .ref (g 55), .ref (g 56), .ref (g 57), .ref (g 58), .ref (g 59), .int 0, .int 0, .int 0, .int 0, .int 0, .int 0, .int 0, .int 0, .int 0, .int 0, .ref (g 70)]))]) (hS : va_S A s.heap H locs) (hZ : pz_s e0 A s s.heap) (hV : pz_v s) (hT : pz_t A s s.heap) (ls : Array Slot) (hl : lv_has ls 8 [(4, .int 0), (3, .ref qo), (2, .ref (g 0)), (1, .ref (h 0)), (0, .ref b)]) : W p l e room_1 s m #[Value.ref b] below meth c H locs 300 100000 (lw_Z below #[Value.ref b] s) (F0 m 1157 ls []) := by
  obtain ⟨hx, hb, hr, hml, hown, hts, hX, hbl, hlocks, hgv⟩ := id C0
  have hown : s.vm.findClass RL = some m.cls := hown
  have hts := fun w h => hts w (wsL_law__in w h)
  have hA : ∀ q : Nat, s.heap.size ≤ q → A q := fun q h => by rw [← hAe]; exact h
  have hbA : ¬ A b := by rw [← hAe]; exact Nat.not_le.mpr hbl
  refine lv_aload_n hx hb dL_law__1157 rfl (lv_at hl 3 rfl) ?_
  refine lv_aload_n hx hb dL_law__1158 rfl (lv_at hl 4 rfl) ?_
  refine lv_iload hx hb dL_law__1159 (lv_at hl 0 rfl) ?_
  refine lv_iconst (v := 1) hx hb dL_law__1161 (by decide) ?_
  refine lv_iadd hx hb dL_law__1162 ?_
  refine lv_topi (fun x_1 ex_1 => ?_)
  obtain rfl : x_1 = 1 := ex_1.trans (by decide)
  refine va_sld hx hb hX hbl hbA hS (pz_inK (by decide)) dL_law__1163 ?_
  refine lv_aload_n hx hb dL_law__1164 rfl (lv_at hl 4 rfl) ?_
  refine lv_iload hx hb dL_law__1165 (lv_at hl 0 rfl) ?_
  refine lv_iconst (v := 2) hx hb dL_law__1167 (by decide) ?_
  refine lv_iadd hx hb dL_law__1168 ?_
  refine lv_topi (fun x_2 ex_2 => ?_)
  obtain rfl : x_2 = 2 := ex_2.trans (by decide)
  refine va_sld hx hb hX hbl hbA hS (pz_inK (by decide)) dL_law__1169 ?_
  refine lv_aload_n hx hb dL_law__1170 rfl (lv_at hl 1 rfl) ?_
  have hPc := hP.sub (ws' := [(h 0, .inr (12, [.ref (h 1), .ref (h 2), .ref (h 3), .ref (h 4), .ref (h 5), .ref (h 6), .ref (h 8), .ref (h 12), .ref (h 11), .int 0, .int 0, .int (-1), .long 0, .long 0])), (h 2, .inr (0, [.int 0, .ref e0, .int 0])), (qo, .inl (cO, 1, .inr (.inl fo)))]) [0, 1, 2] rfl
  have hDc := hD.sub (ws' := [(h 0, .inr (12, [.ref (h 1), .ref (h 2), .ref (h 3), .ref (h 4), .ref (h 5), .ref (h 6), .ref (h 8), .ref (h 12), .ref (h 11), .int 0, .int 0, .int (-1), .long 0, .long 0])), (h 2, .inr (0, [.int 0, .ref e0, .int 0])), (qo, .inl (cO, 1, .inr (.inl fo)))]) [0, 1, 2] (by decide) rfl
  have hKc := hK.sub (tys' := [(cO, .long)]) [0] rfl
  have hFc := va_free (wc := [(h 0, .inr (12, [.ref (h 1), .ref (h 2), .ref (h 3), .ref (h 4), .ref (h 5), .ref (h 6), .ref (h 8), .ref (h 12), .ref (h 11), .int 0, .int 0, .int (-1), .long 0, .long 0])), (h 2, .inr (0, [.int 0, .ref e0, .int 0])), (qo, .inl (cO, 1, .inr (.inl fo)))]) hD hS hA [0, 1, 2] rfl
  refine vx_calli (vx_runSX (As := [.ref (h 0), .int (xs (Int32.toNatClampNeg 1)), .int (xs (Int32.toNatClampNeg 2)), .ref qo]) (rest := []) ⟨hx, hb, hml, hown, hts⟩ (c_L_log l hlt e0 dC dI H.size h qo cO fo (xs (Int32.toNatClampNeg 1)) (xs (Int32.toNatClampNeg 2))) (vx_cwSW 4 hts gL_law__L_log rfl rfl rfl (by decide +kernel) ⟨Nat.le_of_ble_eq_true rfl, Nat.le_of_ble_eq_true rfl⟩) (pz_preS [.ref (h 0), .int (xs (Int32.toNatClampNeg 1)), .int (xs (Int32.toNatClampNeg 2)), .ref qo] hPc hDc hKc hZ hV hT hS hFc) rfl rfl hl.1 rfl (lv_room (Nat.le_of_ble_eq_true rfl)) dL_law__1171 ⟨Nat.le_of_ble_eq_true rfl, Nat.le_of_ble_eq_true rfl⟩) hS (fun q _ h => hFc q h) hFc (fun q _ h => hFc q h) (fun E ce qx_7 u_4 t H locs ht hvm hpx hE hz1 hk1 hS hce hcv hcl => ?_) (fun r_3 u_4 t H locs ht hvm hw_5 hB_6 hz1 hk1 hS => ?_)
  ·
    exact hpx.elim
  ·
    obtain ⟨hP, hD⟩ := pz_rest (wr := [(g 0, .inr (13, [.ref (g 1), .int 0, .int 0, .int 0, .int 0, .int 0, .int 0, .int 0, .int 0, .int 0, .int (-1), .long 0, .long 0, .ref (g 14), .ref (g 15), .ref (g 16), .ref (g 17), .ref (g 18), .ref (g 19), .ref (g 20), .ref (g 21), .ref (g 22), .ref (g 23), .ref (g 24), .ref (g 25), .ref (g 26), .ref (g 27), .ref (g 28), .ref (g 29), .ref (g 30), .ref (g 31), .ref (g 32), .ref (g 33), .ref (g 34), .ref (g 35), .ref (g 36), .ref (g 37), .ref (g 38), .ref (g 39), .ref (g 40), .ref (g 41), .ref (g 42), .ref (g 43), .ref (g 44), .ref (g 45), .ref (g 46), .ref (g 47), .ref (g 48), .ref (g 49), .ref (g 50), .ref (g 51), .ref (g 52), .ref (g 53), .ref (g 54), .ref (g 55), .ref (g 56), .ref (g 57), .ref (g 58), .ref (g 59), .int 0, .int 0, .int 0, .int 0, .int 0, .int 0, .int 0, .int 0, .int 0, .int 0, .ref (g 70)]))]) hP hD [0, 1, 2] [3] rfl rfl (by decide) (by decide) hk1 hFc
    subst hw_5
    refine lv_istore (lv' := [(5, .int 1), (4, .int 0), (3, .ref qo), (2, .ref (g 0)), (1, .ref (h 0)), (0, .ref b)]) hx hb dL_law__1174 hl (by decide) rfl (fun ls hl => ?_)
    refine lv_aload_n hx hb dL_law__1176 rfl (lv_at hl 3 rfl) ?_
    refine lv_aload_n hx hb dL_law__1177 rfl (lv_at hl 5 rfl) ?_
    refine lv_iload hx hb dL_law__1178 (lv_at hl 1 rfl) ?_
    refine lv_iconst (v := 1) hx hb dL_law__1180 (by decide) ?_
    refine lv_iadd hx hb dL_law__1181 ?_
    refine lv_topi (fun x_8 ex_8 => ?_)
    obtain rfl : x_8 = 1 := ex_8.trans (by decide)
    refine va_sld hx hb hX hbl hbA hS (pz_inK (by decide)) dL_law__1182 ?_
    refine lv_aload_n hx hb dL_law__1183 rfl (lv_at hl 5 rfl) ?_
    refine lv_iload hx hb dL_law__1184 (lv_at hl 1 rfl) ?_
    refine lv_iconst (v := 2) hx hb dL_law__1186 (by decide) ?_
    refine lv_iadd hx hb dL_law__1187 ?_
    refine lv_topi (fun x_9 ex_9 => ?_)
    obtain rfl : x_9 = 2 := ex_9.trans (by decide)
    refine va_sld hx hb hX hbl hbA hS (pz_inK (by decide)) dL_law__1188 ?_
    have hPc := hP.sub (ws' := [(g 0, .inr (13, [.ref (g 1), .int 0, .int 0, .int 0, .int 0, .int 0, .int 0, .int 0, .int 0, .int 0, .int (-1), .long 0, .long 0, .ref (g 14), .ref (g 15), .ref (g 16), .ref (g 17), .ref (g 18), .ref (g 19), .ref (g 20), .ref (g 21), .ref (g 22), .ref (g 23), .ref (g 24), .ref (g 25), .ref (g 26), .ref (g 27), .ref (g 28), .ref (g 29), .ref (g 30), .ref (g 31), .ref (g 32), .ref (g 33), .ref (g 34), .ref (g 35), .ref (g 36), .ref (g 37), .ref (g 38), .ref (g 39), .ref (g 40), .ref (g 41), .ref (g 42), .ref (g 43), .ref (g 44), .ref (g 45), .ref (g 46), .ref (g 47), .ref (g 48), .ref (g 49), .ref (g 50), .ref (g 51), .ref (g 52), .ref (g 53), .ref (g 54), .ref (g 55), .ref (g 56), .ref (g 57), .ref (g 58), .ref (g 59), .int 0, .int 0, .int 0, .int 0, .int 0, .int 0, .int 0, .int 0, .int 0, .int 0, .ref (g 70)]))]) [0] rfl
    have hDc := hD.sub (ws' := [(g 0, .inr (13, [.ref (g 1), .int 0, .int 0, .int 0, .int 0, .int 0, .int 0, .int 0, .int 0, .int 0, .int (-1), .long 0, .long 0, .ref (g 14), .ref (g 15), .ref (g 16), .ref (g 17), .ref (g 18), .ref (g 19), .ref (g 20), .ref (g 21), .ref (g 22), .ref (g 23), .ref (g 24), .ref (g 25), .ref (g 26), .ref (g 27), .ref (g 28), .ref (g 29), .ref (g 30), .ref (g 31), .ref (g 32), .ref (g 33), .ref (g 34), .ref (g 35), .ref (g 36), .ref (g 37), .ref (g 38), .ref (g 39), .ref (g 40), .ref (g 41), .ref (g 42), .ref (g 43), .ref (g 44), .ref (g 45), .ref (g 46), .ref (g 47), .ref (g 48), .ref (g 49), .ref (g 50), .ref (g 51), .ref (g 52), .ref (g 53), .ref (g 54), .ref (g 55), .ref (g 56), .ref (g 57), .ref (g 58), .ref (g 59), .int 0, .int 0, .int 0, .int 0, .int 0, .int 0, .int 0, .int 0, .int 0, .int 0, .ref (g 70)]))]) [0] (by decide) rfl
    have hKc := hK.sub (tys' := []) [] rfl
    have hFc := va_free (wc := [(g 0, .inr (13, [.ref (g 1), .int 0, .int 0, .int 0, .int 0, .int 0, .int 0, .int 0, .int 0, .int 0, .int (-1), .long 0, .long 0, .ref (g 14), .ref (g 15), .ref (g 16), .ref (g 17), .ref (g 18), .ref (g 19), .ref (g 20), .ref (g 21), .ref (g 22), .ref (g 23), .ref (g 24), .ref (g 25), .ref (g 26), .ref (g 27), .ref (g 28), .ref (g 29), .ref (g 30), .ref (g 31), .ref (g 32), .ref (g 33), .ref (g 34), .ref (g 35), .ref (g 36), .ref (g 37), .ref (g 38), .ref (g 39), .ref (g 40), .ref (g 41), .ref (g 42), .ref (g 43), .ref (g 44), .ref (g 45), .ref (g 46), .ref (g 47), .ref (g 48), .ref (g 49), .ref (g 50), .ref (g 51), .ref (g 52), .ref (g 53), .ref (g 54), .ref (g 55), .ref (g 56), .ref (g 57), .ref (g 58), .ref (g 59), .int 0, .int 0, .int 0, .int 0, .int 0, .int 0, .int 0, .int 0, .int 0, .int 0, .ref (g 70)]))]) hD hS hA [0] rfl
    refine va_calli (va_runV (As := [.int (xs (Int32.toNatClampNeg 1)), .int (xs (Int32.toNatClampNeg 2))]) (rest := []) ⟨hx, hb, hml, hown, hts⟩ (c_X12_log l hlt e0 dC dI H.size g (xs (Int32.toNatClampNeg 1)) (xs (Int32.toNatClampNeg 2))) (cwV 2 hts gL_law__X12_log rfl rfl rfl (by decide +kernel) ⟨Nat.le_of_ble_eq_true rfl, Nat.le_of_ble_eq_true rfl⟩) (pz_preV [.int (xs (Int32.toNatClampNeg 1)), .int (xs (Int32.toNatClampNeg 2))] hPc hDc hKc hZ hV hT hS hFc (va_recv hKc hPc (ci := 13) (q0 := 0) rfl rfl)) rfl rfl hl.1 rfl (lv_room (Nat.le_of_ble_eq_true rfl)) dL_law__1189 ⟨Nat.le_of_ble_eq_true rfl, Nat.le_of_ble_eq_true rfl⟩) hS (fun q _ h => hFc q h) hFc (fun r_10 u_11 t H locs ht hvm hw_12 hB_13 hz1 hk1 hS => ?_)
    obtain ⟨hP1, hD1⟩ := hB_13
    rw [ht] at hP1
    obtain ⟨hP, hD⟩ := va_join (wr := []) (w1 := [(g 0, .inr (13, u_11))]) hP hD [0] [] rfl rfl (by decide) (by decide) hk1 hFc hP1 hD1
    have hP : va_P (dC, dI) vwCl [(g 0, .inr (13, u_11))] H := hP
    have hD : va_D A [(g 0, .inr (13, u_11))] := hD
    refine lv_istore (lv' := [(6, .int r_10), (5, .int 1), (4, .int 0), (3, .ref qo), (2, .ref (g 0)), (1, .ref (h 0)), (0, .ref b)]) hx hb dL_law__1192 hl (by decide) rfl (fun ls hl => ?_)
    refine lv_aload_n hx hb dL_law__1194 rfl (lv_at hl 4 rfl) ?_
    have hPc := hP.sub (ws' := [(g 0, .inr (13, u_11))]) [0] rfl
    have hDc := hD.sub (ws' := [(g 0, .inr (13, u_11))]) [0] (by decide) rfl
    have hKc := hK.sub (tys' := []) [] rfl
    have hFc := va_free (wc := [(g 0, .inr (13, u_11))]) hD hS hA [0] rfl
    refine va_calli (va_runV (As := []) (rest := []) ⟨hx, hb, hml, hown, hts⟩ (c_X12_thrown l hlt e0 dC dI H.size (g 0) u_11 1 hw_12) (cwV 0 hts gL_law__X12_thrown rfl rfl rfl (by decide +kernel) ⟨Nat.le_of_ble_eq_true rfl, Nat.le_of_ble_eq_true rfl⟩) (pz_preV [] hPc hDc hKc hZ hV hT hS hFc (va_recv hKc hPc (ci := 13) (q0 := 0) rfl rfl)) rfl rfl hl.1 rfl (lv_room (Nat.le_of_ble_eq_true rfl)) dL_law__1195 ⟨Nat.le_of_ble_eq_true rfl, Nat.le_of_ble_eq_true rfl⟩) hS (fun q _ h => hFc q h) hFc (fun r_14 u_15 t H locs ht hvm hw_16 hB_17 hz1 hk1 hS => ?_)
    obtain ⟨hP, hD⟩ := pz_rest (wr := []) hP hD [0] [] rfl rfl (by decide) (by decide) hk1 hFc
    subst hw_16
    refine lv_iload hx hb dL_law__1198 (lv_at hl 1 rfl) ?_
    refine lv_icmp_eq (tgt := 1205) hx hb dL_law__1200 (by decide) (fun c_18 => ?_) (fun c_18 => ?_)
    rotate_left
    · exact absurd c_18 (by decide)
    refine lv_iload hx hb dL_law__1205 (lv_at hl 1 rfl) ?_
    refine lv_if_ne (tgt := 1222) hx hb dL_law__1207 (by decide) (fun c_19 => ?_) (fun c_19 => ?_)
    rotate_left
    · exact absurd c_19 (by decide)
    refine lv_goto (tgt := 1743) hx hb dL_law__1222 (by decide) ?_
    exact lc_end l C0 (Nat.le_of_ble_eq_true rfl) (Nat.le_of_ble_eq_true rfl) hAe hS ls (lv_sub hl [2, 6] rfl)
set_option maxHeartbeats 8000000 in
set_option maxRecDepth 100000 in
/-- the law's case 16: cell -/
theorem lc_cell {p : Program} {e : Env} {s : State} {m : MethodId} {below : List Frame} {meth : Method} {c : Code} (l : Launch) (hlt : l.stackTraces = false) {b : Nat} {xs : Nat → Int32} (C0 : lw_At p s m meth c b 6 xs) (e0 : Nat) (dC : Nat → ClassId) (dI : Nat → Nat → Nat) (h g : Nat → Nat) (ca cb : Nat → ClassId) (qo : Nat) (cO : ClassId) (fo : Nat → Int64) {A : Nat → Prop} (hAe : (fun q : Nat => s.heap.size ≤ q) = A) {H : Heap} {locs : List Loc} (hK : va_K (dC, dI) vwCl [(cO, .long)] s) (hP : va_P (dC, dI) vwCl [(h 0, .inr (12, [.ref (h 1), .ref (h 2), .ref (h 3), .ref (h 4), .ref (h 5), .ref (h 6), .ref (h 8), .ref (h 12), .ref (h 11), .int 0, .int 0, .int (-1), .long 0, .long 0])), (h 1, .inr (0, [.int 0, .ref e0, .int 0])), (qo, .inl (cO, 1, .inr (.inl fo))), (g 0, .inr (13, [.ref (g 1), .int 0, .int 0, .int 0, .int 0, .int 0, .int 0, .int 0, .int 0, .int 0, .int (-1), .long 0, .long 0, .ref (g 14), .ref (g 15), .ref (g 16), .ref (g 17), .ref (g 18), .ref (g 19), .ref (g 20), .ref (g 21), .ref (g 22), .ref (g 23), .ref (g 24), .ref (g 25), .ref (g 26), .ref (g 27), .ref (g 28), .ref (g 29), .ref (g 30), .ref (g 31), .ref (g 32), .ref (g 33), .ref (g 34), .ref (g 35), .ref (g 36), .ref (g 37), .ref (g 38), .ref (g 39), .ref (g 40), .ref (g 41), .ref (g 42), .ref (g 43), .ref (g 44), .ref (g 45), .ref (g 46), .ref (g 47), .ref (g 48), .ref (g 49), .ref (g 50), .ref (g 51), .ref (g 52), .ref (g 53), .ref (g 54), .ref (g 55), .ref (g 56), .ref (g 57), .ref (g 58), .ref (g 59), .int 0, .int 0, .int 0, .int 0, .int 0, .int 0, .int 0, .int 0, .int 0, .int 0, .ref (g 70)]))] H) (hD : va_D A [(h 0, .inr (12, [.ref (h 1), .ref (h 2), .ref (h 3), .ref (h 4), .ref (h 5), .ref (h 6), .ref (h 8), .ref (h 12), .ref (h 11), .int 0, .int 0, .int (-1), .long 0, .long 0])), (h 1, .inr (0, [.int 0, .ref e0, .int 0])), (qo, .inl (cO, 1, .inr (.inl fo))), (g 0, .inr (13, [.ref (g 1), .int 0, .int 0, .int 0, .int 0, .int 0, .int 0, .int 0, .int 0, .int 0, .int (-1), .long 0, .long 0, .ref (g 14), .ref (g 15), .ref (g 16), .ref (g 17), .ref (g 18), .ref (g 19), .ref (g 20), .ref (g 21), .ref (g 22), .ref (g 23), .ref (g 24), .ref (g 25), .ref (g 26), .ref (g 27), .ref (g 28), .ref (g 29), .ref (g 30), .ref (g 31), .ref (g 32), .ref (g 33), .ref (g 34), .ref (g 35), .ref (g 36), .ref (g 37), .ref (g 38), .ref (g 39), .ref (g 40), .ref (g 41), .ref (g 42), .ref (g 43), .ref (g 44), .ref (g 45), .ref (g 46), .ref (g 47), .ref (g 48), .ref (g 49), .ref (g 50), .ref (g 51), .ref (g 52), .ref (g 53), .ref (g 54), .ref (g 55), .ref (g 56), .ref (g 57), .ref (g 58), .ref (g 59), .int 0, .int 0, .int 0, .int 0, .int 0, .int 0, .int 0, .int 0, .int 0, .int 0, .ref (g 70)]))]) (hS : va_S A s.heap H locs) (hZ : pz_s e0 A s s.heap) (hV : pz_v s) (hT : pz_t A s s.heap) (ls : Array Slot) (hl : lv_has ls 8 [(4, .int 0), (3, .ref qo), (2, .ref (g 0)), (1, .ref (h 0)), (0, .ref b)]) : W p l e room_1 s m #[Value.ref b] below meth c H locs 300 100000 (lw_Z below #[Value.ref b] s) (F0 m 1225 ls []) := by
  obtain ⟨hx, hb, hr, hml, hown, hts, hX, hbl, hlocks, hgv⟩ := id C0
  have hown : s.vm.findClass RL = some m.cls := hown
  have hts := fun w h => hts w (wsL_law__in w h)
  have hA : ∀ q : Nat, s.heap.size ≤ q → A q := fun q h => by rw [← hAe]; exact h
  have hbA : ¬ A b := by rw [← hAe]; exact Nat.not_le.mpr hbl
  refine lv_aload_n hx hb dL_law__1225 rfl (lv_at hl 3 rfl) ?_
  refine lv_aload_n hx hb dL_law__1226 rfl (lv_at hl 4 rfl) ?_
  refine lv_iload hx hb dL_law__1227 (lv_at hl 0 rfl) ?_
  refine lv_iconst (v := 1) hx hb dL_law__1229 (by decide) ?_
  refine lv_iadd hx hb dL_law__1230 ?_
  refine lv_topi (fun x_1 ex_1 => ?_)
  obtain rfl : x_1 = 1 := ex_1.trans (by decide)
  refine va_sld hx hb hX hbl hbA hS (pz_inK (by decide)) dL_law__1231 ?_
  refine lv_aload_n hx hb dL_law__1232 rfl (lv_at hl 4 rfl) ?_
  refine lv_iload hx hb dL_law__1233 (lv_at hl 0 rfl) ?_
  refine lv_iconst (v := 2) hx hb dL_law__1235 (by decide) ?_
  refine lv_iadd hx hb dL_law__1236 ?_
  refine lv_topi (fun x_2 ex_2 => ?_)
  obtain rfl : x_2 = 2 := ex_2.trans (by decide)
  refine va_sld hx hb hX hbl hbA hS (pz_inK (by decide)) dL_law__1237 ?_
  refine lv_aload_n hx hb dL_law__1238 rfl (lv_at hl 4 rfl) ?_
  refine lv_iload hx hb dL_law__1239 (lv_at hl 0 rfl) ?_
  refine lv_iconst (v := 3) hx hb dL_law__1241 (by decide) ?_
  refine lv_iadd hx hb dL_law__1242 ?_
  refine lv_topi (fun x_3 ex_3 => ?_)
  obtain rfl : x_3 = 3 := ex_3.trans (by decide)
  refine va_sld hx hb hX hbl hbA hS (pz_inK (by decide)) dL_law__1243 ?_
  refine lv_aload_n hx hb dL_law__1244 rfl (lv_at hl 1 rfl) ?_
  have hPc := hP.sub (ws' := [(h 0, .inr (12, [.ref (h 1), .ref (h 2), .ref (h 3), .ref (h 4), .ref (h 5), .ref (h 6), .ref (h 8), .ref (h 12), .ref (h 11), .int 0, .int 0, .int (-1), .long 0, .long 0])), (h 1, .inr (0, [.int 0, .ref e0, .int 0])), (qo, .inl (cO, 1, .inr (.inl fo)))]) [0, 1, 2] rfl
  have hDc := hD.sub (ws' := [(h 0, .inr (12, [.ref (h 1), .ref (h 2), .ref (h 3), .ref (h 4), .ref (h 5), .ref (h 6), .ref (h 8), .ref (h 12), .ref (h 11), .int 0, .int 0, .int (-1), .long 0, .long 0])), (h 1, .inr (0, [.int 0, .ref e0, .int 0])), (qo, .inl (cO, 1, .inr (.inl fo)))]) [0, 1, 2] (by decide) rfl
  have hKc := hK.sub (tys' := [(cO, .long)]) [0] rfl
  have hFc := va_free (wc := [(h 0, .inr (12, [.ref (h 1), .ref (h 2), .ref (h 3), .ref (h 4), .ref (h 5), .ref (h 6), .ref (h 8), .ref (h 12), .ref (h 11), .int 0, .int 0, .int (-1), .long 0, .long 0])), (h 1, .inr (0, [.int 0, .ref e0, .int 0])), (qo, .inl (cO, 1, .inr (.inl fo)))]) hD hS hA [0, 1, 2] rfl
  refine vx_calli (vx_runSX (As := [.ref (h 0), .int (xs (Int32.toNatClampNeg 1)), .int (xs (Int32.toNatClampNeg 2)), .int (xs (Int32.toNatClampNeg 3)), .ref qo]) (rest := []) ⟨hx, hb, hml, hown, hts⟩ (c_L_cell l hlt e0 dC dI H.size h qo cO fo (xs (Int32.toNatClampNeg 1)) (xs (Int32.toNatClampNeg 2)) (xs (Int32.toNatClampNeg 3))) (vx_cwSW 5 hts gL_law__L_cell rfl rfl rfl (by decide +kernel) ⟨Nat.le_of_ble_eq_true rfl, Nat.le_of_ble_eq_true rfl⟩) (pz_preS [.ref (h 0), .int (xs (Int32.toNatClampNeg 1)), .int (xs (Int32.toNatClampNeg 2)), .int (xs (Int32.toNatClampNeg 3)), .ref qo] hPc hDc hKc hZ hV hT hS hFc) rfl rfl hl.1 rfl (lv_room (Nat.le_of_ble_eq_true rfl)) dL_law__1245 ⟨Nat.le_of_ble_eq_true rfl, Nat.le_of_ble_eq_true rfl⟩) hS (fun q _ h => hFc q h) hFc (fun q _ h => hFc q h) (fun E ce qx_8 u_5 t H locs ht hvm hpx hE hz1 hk1 hS hce hcv hcl => ?_) (fun r_4 u_5 t H locs ht hvm hw_6 hB_7 hz1 hk1 hS => ?_)
  ·
    exact hpx.elim
  ·
    obtain ⟨hP, hD⟩ := pz_rest (wr := [(g 0, .inr (13, [.ref (g 1), .int 0, .int 0, .int 0, .int 0, .int 0, .int 0, .int 0, .int 0, .int 0, .int (-1), .long 0, .long 0, .ref (g 14), .ref (g 15), .ref (g 16), .ref (g 17), .ref (g 18), .ref (g 19), .ref (g 20), .ref (g 21), .ref (g 22), .ref (g 23), .ref (g 24), .ref (g 25), .ref (g 26), .ref (g 27), .ref (g 28), .ref (g 29), .ref (g 30), .ref (g 31), .ref (g 32), .ref (g 33), .ref (g 34), .ref (g 35), .ref (g 36), .ref (g 37), .ref (g 38), .ref (g 39), .ref (g 40), .ref (g 41), .ref (g 42), .ref (g 43), .ref (g 44), .ref (g 45), .ref (g 46), .ref (g 47), .ref (g 48), .ref (g 49), .ref (g 50), .ref (g 51), .ref (g 52), .ref (g 53), .ref (g 54), .ref (g 55), .ref (g 56), .ref (g 57), .ref (g 58), .ref (g 59), .int 0, .int 0, .int 0, .int 0, .int 0, .int 0, .int 0, .int 0, .int 0, .int 0, .ref (g 70)]))]) hP hD [0, 1, 2] [3] rfl rfl (by decide) (by decide) hk1 hFc
    subst hw_6
    refine lv_istore (lv' := [(5, .int 1), (4, .int 0), (3, .ref qo), (2, .ref (g 0)), (1, .ref (h 0)), (0, .ref b)]) hx hb dL_law__1248 hl (by decide) rfl (fun ls hl => ?_)
    refine lv_aload_n hx hb dL_law__1250 rfl (lv_at hl 3 rfl) ?_
    refine lv_aload_n hx hb dL_law__1251 rfl (lv_at hl 5 rfl) ?_
    refine lv_iload hx hb dL_law__1252 (lv_at hl 1 rfl) ?_
    refine lv_iconst (v := 1) hx hb dL_law__1254 (by decide) ?_
    refine lv_iadd hx hb dL_law__1255 ?_
    refine lv_topi (fun x_9 ex_9 => ?_)
    obtain rfl : x_9 = 1 := ex_9.trans (by decide)
    refine va_sld hx hb hX hbl hbA hS (pz_inK (by decide)) dL_law__1256 ?_
    refine lv_aload_n hx hb dL_law__1257 rfl (lv_at hl 5 rfl) ?_
    refine lv_iload hx hb dL_law__1258 (lv_at hl 1 rfl) ?_
    refine lv_iconst (v := 2) hx hb dL_law__1260 (by decide) ?_
    refine lv_iadd hx hb dL_law__1261 ?_
    refine lv_topi (fun x_10 ex_10 => ?_)
    obtain rfl : x_10 = 2 := ex_10.trans (by decide)
    refine va_sld hx hb hX hbl hbA hS (pz_inK (by decide)) dL_law__1262 ?_
    refine lv_aload_n hx hb dL_law__1263 rfl (lv_at hl 5 rfl) ?_
    refine lv_iload hx hb dL_law__1264 (lv_at hl 1 rfl) ?_
    refine lv_iconst (v := 3) hx hb dL_law__1266 (by decide) ?_
    refine lv_iadd hx hb dL_law__1267 ?_
    refine lv_topi (fun x_11 ex_11 => ?_)
    obtain rfl : x_11 = 3 := ex_11.trans (by decide)
    refine va_sld hx hb hX hbl hbA hS (pz_inK (by decide)) dL_law__1268 ?_
    have hPc := hP.sub (ws' := [(g 0, .inr (13, [.ref (g 1), .int 0, .int 0, .int 0, .int 0, .int 0, .int 0, .int 0, .int 0, .int 0, .int (-1), .long 0, .long 0, .ref (g 14), .ref (g 15), .ref (g 16), .ref (g 17), .ref (g 18), .ref (g 19), .ref (g 20), .ref (g 21), .ref (g 22), .ref (g 23), .ref (g 24), .ref (g 25), .ref (g 26), .ref (g 27), .ref (g 28), .ref (g 29), .ref (g 30), .ref (g 31), .ref (g 32), .ref (g 33), .ref (g 34), .ref (g 35), .ref (g 36), .ref (g 37), .ref (g 38), .ref (g 39), .ref (g 40), .ref (g 41), .ref (g 42), .ref (g 43), .ref (g 44), .ref (g 45), .ref (g 46), .ref (g 47), .ref (g 48), .ref (g 49), .ref (g 50), .ref (g 51), .ref (g 52), .ref (g 53), .ref (g 54), .ref (g 55), .ref (g 56), .ref (g 57), .ref (g 58), .ref (g 59), .int 0, .int 0, .int 0, .int 0, .int 0, .int 0, .int 0, .int 0, .int 0, .int 0, .ref (g 70)]))]) [0] rfl
    have hDc := hD.sub (ws' := [(g 0, .inr (13, [.ref (g 1), .int 0, .int 0, .int 0, .int 0, .int 0, .int 0, .int 0, .int 0, .int 0, .int (-1), .long 0, .long 0, .ref (g 14), .ref (g 15), .ref (g 16), .ref (g 17), .ref (g 18), .ref (g 19), .ref (g 20), .ref (g 21), .ref (g 22), .ref (g 23), .ref (g 24), .ref (g 25), .ref (g 26), .ref (g 27), .ref (g 28), .ref (g 29), .ref (g 30), .ref (g 31), .ref (g 32), .ref (g 33), .ref (g 34), .ref (g 35), .ref (g 36), .ref (g 37), .ref (g 38), .ref (g 39), .ref (g 40), .ref (g 41), .ref (g 42), .ref (g 43), .ref (g 44), .ref (g 45), .ref (g 46), .ref (g 47), .ref (g 48), .ref (g 49), .ref (g 50), .ref (g 51), .ref (g 52), .ref (g 53), .ref (g 54), .ref (g 55), .ref (g 56), .ref (g 57), .ref (g 58), .ref (g 59), .int 0, .int 0, .int 0, .int 0, .int 0, .int 0, .int 0, .int 0, .int 0, .int 0, .ref (g 70)]))]) [0] (by decide) rfl
    have hKc := hK.sub (tys' := []) [] rfl
    have hFc := va_free (wc := [(g 0, .inr (13, [.ref (g 1), .int 0, .int 0, .int 0, .int 0, .int 0, .int 0, .int 0, .int 0, .int 0, .int (-1), .long 0, .long 0, .ref (g 14), .ref (g 15), .ref (g 16), .ref (g 17), .ref (g 18), .ref (g 19), .ref (g 20), .ref (g 21), .ref (g 22), .ref (g 23), .ref (g 24), .ref (g 25), .ref (g 26), .ref (g 27), .ref (g 28), .ref (g 29), .ref (g 30), .ref (g 31), .ref (g 32), .ref (g 33), .ref (g 34), .ref (g 35), .ref (g 36), .ref (g 37), .ref (g 38), .ref (g 39), .ref (g 40), .ref (g 41), .ref (g 42), .ref (g 43), .ref (g 44), .ref (g 45), .ref (g 46), .ref (g 47), .ref (g 48), .ref (g 49), .ref (g 50), .ref (g 51), .ref (g 52), .ref (g 53), .ref (g 54), .ref (g 55), .ref (g 56), .ref (g 57), .ref (g 58), .ref (g 59), .int 0, .int 0, .int 0, .int 0, .int 0, .int 0, .int 0, .int 0, .int 0, .int 0, .ref (g 70)]))]) hD hS hA [0] rfl
    refine va_calli (va_runV (As := [.int (xs (Int32.toNatClampNeg 1)), .int (xs (Int32.toNatClampNeg 2)), .int (xs (Int32.toNatClampNeg 3))]) (rest := []) ⟨hx, hb, hml, hown, hts⟩ (c_X12_cell l hlt e0 dC dI H.size g (xs (Int32.toNatClampNeg 1)) (xs (Int32.toNatClampNeg 2)) (xs (Int32.toNatClampNeg 3))) (cwV 3 hts gL_law__X12_cell rfl rfl rfl (by decide +kernel) ⟨Nat.le_of_ble_eq_true rfl, Nat.le_of_ble_eq_true rfl⟩) (pz_preV [.int (xs (Int32.toNatClampNeg 1)), .int (xs (Int32.toNatClampNeg 2)), .int (xs (Int32.toNatClampNeg 3))] hPc hDc hKc hZ hV hT hS hFc (va_recv hKc hPc (ci := 13) (q0 := 0) rfl rfl)) rfl rfl hl.1 rfl (lv_room (Nat.le_of_ble_eq_true rfl)) dL_law__1269 ⟨Nat.le_of_ble_eq_true rfl, Nat.le_of_ble_eq_true rfl⟩) hS (fun q _ h => hFc q h) hFc (fun r_12 u_13 t H locs ht hvm hw_14 hB_15 hz1 hk1 hS => ?_)
    obtain ⟨hP1, hD1⟩ := hB_15
    rw [ht] at hP1
    obtain ⟨hP, hD⟩ := va_join (wr := []) (w1 := [(g 0, .inr (13, u_13))]) hP hD [0] [] rfl rfl (by decide) (by decide) hk1 hFc hP1 hD1
    have hP : va_P (dC, dI) vwCl [(g 0, .inr (13, u_13))] H := hP
    have hD : va_D A [(g 0, .inr (13, u_13))] := hD
    refine lv_istore (lv' := [(6, .int r_12), (5, .int 1), (4, .int 0), (3, .ref qo), (2, .ref (g 0)), (1, .ref (h 0)), (0, .ref b)]) hx hb dL_law__1272 hl (by decide) rfl (fun ls hl => ?_)
    refine lv_aload_n hx hb dL_law__1274 rfl (lv_at hl 4 rfl) ?_
    have hPc := hP.sub (ws' := [(g 0, .inr (13, u_13))]) [0] rfl
    have hDc := hD.sub (ws' := [(g 0, .inr (13, u_13))]) [0] (by decide) rfl
    have hKc := hK.sub (tys' := []) [] rfl
    have hFc := va_free (wc := [(g 0, .inr (13, u_13))]) hD hS hA [0] rfl
    refine va_calli (va_runV (As := []) (rest := []) ⟨hx, hb, hml, hown, hts⟩ (c_X12_thrown l hlt e0 dC dI H.size (g 0) u_13 1 hw_14) (cwV 0 hts gL_law__X12_thrown rfl rfl rfl (by decide +kernel) ⟨Nat.le_of_ble_eq_true rfl, Nat.le_of_ble_eq_true rfl⟩) (pz_preV [] hPc hDc hKc hZ hV hT hS hFc (va_recv hKc hPc (ci := 13) (q0 := 0) rfl rfl)) rfl rfl hl.1 rfl (lv_room (Nat.le_of_ble_eq_true rfl)) dL_law__1275 ⟨Nat.le_of_ble_eq_true rfl, Nat.le_of_ble_eq_true rfl⟩) hS (fun q _ h => hFc q h) hFc (fun r_16 u_17 t H locs ht hvm hw_18 hB_19 hz1 hk1 hS => ?_)
    obtain ⟨hP, hD⟩ := pz_rest (wr := []) hP hD [0] [] rfl rfl (by decide) (by decide) hk1 hFc
    subst hw_18
    refine lv_iload hx hb dL_law__1278 (lv_at hl 1 rfl) ?_
    refine lv_icmp_eq (tgt := 1285) hx hb dL_law__1280 (by decide) (fun c_20 => ?_) (fun c_20 => ?_)
    rotate_left
    · exact absurd c_20 (by decide)
    refine lv_iload hx hb dL_law__1285 (lv_at hl 1 rfl) ?_
    refine lv_if_ne (tgt := 1302) hx hb dL_law__1287 (by decide) (fun c_21 => ?_) (fun c_21 => ?_)
    rotate_left
    · exact absurd c_21 (by decide)
    refine lv_goto (tgt := 1743) hx hb dL_law__1302 (by decide) ?_
    exact lc_end l C0 (Nat.le_of_ble_eq_true rfl) (Nat.le_of_ble_eq_true rfl) hAe hS ls (lv_sub hl [2, 6] rfl)
set_option maxHeartbeats 8000000 in
set_option maxRecDepth 100000 in
/-- the law's case 17: inCell -/
theorem lc_inCell {p : Program} {e : Env} {s : State} {m : MethodId} {below : List Frame} {meth : Method} {c : Code} (l : Launch) (hlt : l.stackTraces = false) {b : Nat} {xs : Nat → Int32} (C0 : lw_At p s m meth c b 6 xs) (e0 : Nat) (dC : Nat → ClassId) (dI : Nat → Nat → Nat) (h g : Nat → Nat) (ca cb : Nat → ClassId) (qo : Nat) (cO : ClassId) (fo : Nat → Int64) {A : Nat → Prop} (hAe : (fun q : Nat => s.heap.size ≤ q) = A) {H : Heap} {locs : List Loc} (hK : va_K (dC, dI) vwCl [(cO, .long)] s) (hP : va_P (dC, dI) vwCl [(h 0, .inr (12, [.ref (h 1), .ref (h 2), .ref (h 3), .ref (h 4), .ref (h 5), .ref (h 6), .ref (h 8), .ref (h 12), .ref (h 11), .int 0, .int 0, .int (-1), .long 0, .long 0])), (h 1, .inr (0, [.int 0, .ref e0, .int 0])), (qo, .inl (cO, 1, .inr (.inl fo))), (g 0, .inr (13, [.ref (g 1), .int 0, .int 0, .int 0, .int 0, .int 0, .int 0, .int 0, .int 0, .int 0, .int (-1), .long 0, .long 0, .ref (g 14), .ref (g 15), .ref (g 16), .ref (g 17), .ref (g 18), .ref (g 19), .ref (g 20), .ref (g 21), .ref (g 22), .ref (g 23), .ref (g 24), .ref (g 25), .ref (g 26), .ref (g 27), .ref (g 28), .ref (g 29), .ref (g 30), .ref (g 31), .ref (g 32), .ref (g 33), .ref (g 34), .ref (g 35), .ref (g 36), .ref (g 37), .ref (g 38), .ref (g 39), .ref (g 40), .ref (g 41), .ref (g 42), .ref (g 43), .ref (g 44), .ref (g 45), .ref (g 46), .ref (g 47), .ref (g 48), .ref (g 49), .ref (g 50), .ref (g 51), .ref (g 52), .ref (g 53), .ref (g 54), .ref (g 55), .ref (g 56), .ref (g 57), .ref (g 58), .ref (g 59), .int 0, .int 0, .int 0, .int 0, .int 0, .int 0, .int 0, .int 0, .int 0, .int 0, .ref (g 70)]))] H) (hD : va_D A [(h 0, .inr (12, [.ref (h 1), .ref (h 2), .ref (h 3), .ref (h 4), .ref (h 5), .ref (h 6), .ref (h 8), .ref (h 12), .ref (h 11), .int 0, .int 0, .int (-1), .long 0, .long 0])), (h 1, .inr (0, [.int 0, .ref e0, .int 0])), (qo, .inl (cO, 1, .inr (.inl fo))), (g 0, .inr (13, [.ref (g 1), .int 0, .int 0, .int 0, .int 0, .int 0, .int 0, .int 0, .int 0, .int 0, .int (-1), .long 0, .long 0, .ref (g 14), .ref (g 15), .ref (g 16), .ref (g 17), .ref (g 18), .ref (g 19), .ref (g 20), .ref (g 21), .ref (g 22), .ref (g 23), .ref (g 24), .ref (g 25), .ref (g 26), .ref (g 27), .ref (g 28), .ref (g 29), .ref (g 30), .ref (g 31), .ref (g 32), .ref (g 33), .ref (g 34), .ref (g 35), .ref (g 36), .ref (g 37), .ref (g 38), .ref (g 39), .ref (g 40), .ref (g 41), .ref (g 42), .ref (g 43), .ref (g 44), .ref (g 45), .ref (g 46), .ref (g 47), .ref (g 48), .ref (g 49), .ref (g 50), .ref (g 51), .ref (g 52), .ref (g 53), .ref (g 54), .ref (g 55), .ref (g 56), .ref (g 57), .ref (g 58), .ref (g 59), .int 0, .int 0, .int 0, .int 0, .int 0, .int 0, .int 0, .int 0, .int 0, .int 0, .ref (g 70)]))]) (hS : va_S A s.heap H locs) (hZ : pz_s e0 A s s.heap) (hV : pz_v s) (hT : pz_t A s s.heap) (ls : Array Slot) (hl : lv_has ls 8 [(4, .int 0), (3, .ref qo), (2, .ref (g 0)), (1, .ref (h 0)), (0, .ref b)]) : W p l e room_1 s m #[Value.ref b] below meth c H locs 300 100000 (lw_Z below #[Value.ref b] s) (F0 m 1305 ls []) := by
  obtain ⟨hx, hb, hr, hml, hown, hts, hX, hbl, hlocks, hgv⟩ := id C0
  have hown : s.vm.findClass RL = some m.cls := hown
  have hts := fun w h => hts w (wsL_law__in w h)
  have hA : ∀ q : Nat, s.heap.size ≤ q → A q := fun q h => by rw [← hAe]; exact h
  have hbA : ¬ A b := by rw [← hAe]; exact Nat.not_le.mpr hbl
  refine lv_aload_n hx hb dL_law__1305 rfl (lv_at hl 3 rfl) ?_
  refine lv_aload_n hx hb dL_law__1306 rfl (lv_at hl 4 rfl) ?_
  refine lv_iload hx hb dL_law__1307 (lv_at hl 0 rfl) ?_
  refine lv_iconst (v := 1) hx hb dL_law__1309 (by decide) ?_
  refine lv_iadd hx hb dL_law__1310 ?_
  refine lv_topi (fun x_1 ex_1 => ?_)
  obtain rfl : x_1 = 1 := ex_1.trans (by decide)
  refine va_sld hx hb hX hbl hbA hS (pz_inK (by decide)) dL_law__1311 ?_
  refine lv_aload_n hx hb dL_law__1312 rfl (lv_at hl 4 rfl) ?_
  refine lv_iload hx hb dL_law__1313 (lv_at hl 0 rfl) ?_
  refine lv_iconst (v := 2) hx hb dL_law__1315 (by decide) ?_
  refine lv_iadd hx hb dL_law__1316 ?_
  refine lv_topi (fun x_2 ex_2 => ?_)
  obtain rfl : x_2 = 2 := ex_2.trans (by decide)
  refine va_sld hx hb hX hbl hbA hS (pz_inK (by decide)) dL_law__1317 ?_
  refine lv_aload_n hx hb dL_law__1318 rfl (lv_at hl 4 rfl) ?_
  refine lv_iload hx hb dL_law__1319 (lv_at hl 0 rfl) ?_
  refine lv_iconst (v := 3) hx hb dL_law__1321 (by decide) ?_
  refine lv_iadd hx hb dL_law__1322 ?_
  refine lv_topi (fun x_3 ex_3 => ?_)
  obtain rfl : x_3 = 3 := ex_3.trans (by decide)
  refine va_sld hx hb hX hbl hbA hS (pz_inK (by decide)) dL_law__1323 ?_
  refine lv_aload_n hx hb dL_law__1324 rfl (lv_at hl 1 rfl) ?_
  have hPc := hP.sub (ws' := [(h 0, .inr (12, [.ref (h 1), .ref (h 2), .ref (h 3), .ref (h 4), .ref (h 5), .ref (h 6), .ref (h 8), .ref (h 12), .ref (h 11), .int 0, .int 0, .int (-1), .long 0, .long 0])), (h 1, .inr (0, [.int 0, .ref e0, .int 0])), (qo, .inl (cO, 1, .inr (.inl fo)))]) [0, 1, 2] rfl
  have hDc := hD.sub (ws' := [(h 0, .inr (12, [.ref (h 1), .ref (h 2), .ref (h 3), .ref (h 4), .ref (h 5), .ref (h 6), .ref (h 8), .ref (h 12), .ref (h 11), .int 0, .int 0, .int (-1), .long 0, .long 0])), (h 1, .inr (0, [.int 0, .ref e0, .int 0])), (qo, .inl (cO, 1, .inr (.inl fo)))]) [0, 1, 2] (by decide) rfl
  have hKc := hK.sub (tys' := [(cO, .long)]) [0] rfl
  have hFc := va_free (wc := [(h 0, .inr (12, [.ref (h 1), .ref (h 2), .ref (h 3), .ref (h 4), .ref (h 5), .ref (h 6), .ref (h 8), .ref (h 12), .ref (h 11), .int 0, .int 0, .int (-1), .long 0, .long 0])), (h 1, .inr (0, [.int 0, .ref e0, .int 0])), (qo, .inl (cO, 1, .inr (.inl fo)))]) hD hS hA [0, 1, 2] rfl
  refine vx_calli (vx_runSX (As := [.ref (h 0), .int (xs (Int32.toNatClampNeg 1)), .int (xs (Int32.toNatClampNeg 2)), .int (xs (Int32.toNatClampNeg 3)), .ref qo]) (rest := []) ⟨hx, hb, hml, hown, hts⟩ (c_L_inCell l hlt e0 dC dI H.size h qo cO fo (xs (Int32.toNatClampNeg 1)) (xs (Int32.toNatClampNeg 2)) (xs (Int32.toNatClampNeg 3))) (vx_cwSW 5 hts gL_law__L_inCell rfl rfl rfl (by decide +kernel) ⟨Nat.le_of_ble_eq_true rfl, Nat.le_of_ble_eq_true rfl⟩) (pz_preS [.ref (h 0), .int (xs (Int32.toNatClampNeg 1)), .int (xs (Int32.toNatClampNeg 2)), .int (xs (Int32.toNatClampNeg 3)), .ref qo] hPc hDc hKc hZ hV hT hS hFc) rfl rfl hl.1 rfl (lv_room (Nat.le_of_ble_eq_true rfl)) dL_law__1325 ⟨Nat.le_of_ble_eq_true rfl, Nat.le_of_ble_eq_true rfl⟩) hS (fun q _ h => hFc q h) hFc (fun q _ h => hFc q h) (fun E ce qx_8 u_5 t H locs ht hvm hpx hE hz1 hk1 hS hce hcv hcl => ?_) (fun r_4 u_5 t H locs ht hvm hw_6 hB_7 hz1 hk1 hS => ?_)
  ·
    exact hpx.elim
  ·
    obtain ⟨hP, hD⟩ := pz_rest (wr := [(g 0, .inr (13, [.ref (g 1), .int 0, .int 0, .int 0, .int 0, .int 0, .int 0, .int 0, .int 0, .int 0, .int (-1), .long 0, .long 0, .ref (g 14), .ref (g 15), .ref (g 16), .ref (g 17), .ref (g 18), .ref (g 19), .ref (g 20), .ref (g 21), .ref (g 22), .ref (g 23), .ref (g 24), .ref (g 25), .ref (g 26), .ref (g 27), .ref (g 28), .ref (g 29), .ref (g 30), .ref (g 31), .ref (g 32), .ref (g 33), .ref (g 34), .ref (g 35), .ref (g 36), .ref (g 37), .ref (g 38), .ref (g 39), .ref (g 40), .ref (g 41), .ref (g 42), .ref (g 43), .ref (g 44), .ref (g 45), .ref (g 46), .ref (g 47), .ref (g 48), .ref (g 49), .ref (g 50), .ref (g 51), .ref (g 52), .ref (g 53), .ref (g 54), .ref (g 55), .ref (g 56), .ref (g 57), .ref (g 58), .ref (g 59), .int 0, .int 0, .int 0, .int 0, .int 0, .int 0, .int 0, .int 0, .int 0, .int 0, .ref (g 70)]))]) hP hD [0, 1, 2] [3] rfl rfl (by decide) (by decide) hk1 hFc
    subst hw_6
    refine lv_istore (lv' := [(5, .int 1), (4, .int 0), (3, .ref qo), (2, .ref (g 0)), (1, .ref (h 0)), (0, .ref b)]) hx hb dL_law__1328 hl (by decide) rfl (fun ls hl => ?_)
    refine lv_aload_n hx hb dL_law__1330 rfl (lv_at hl 3 rfl) ?_
    refine lv_aload_n hx hb dL_law__1331 rfl (lv_at hl 5 rfl) ?_
    refine lv_iload hx hb dL_law__1332 (lv_at hl 1 rfl) ?_
    refine lv_iconst (v := 1) hx hb dL_law__1334 (by decide) ?_
    refine lv_iadd hx hb dL_law__1335 ?_
    refine lv_topi (fun x_9 ex_9 => ?_)
    obtain rfl : x_9 = 1 := ex_9.trans (by decide)
    refine va_sld hx hb hX hbl hbA hS (pz_inK (by decide)) dL_law__1336 ?_
    refine lv_aload_n hx hb dL_law__1337 rfl (lv_at hl 5 rfl) ?_
    refine lv_iload hx hb dL_law__1338 (lv_at hl 1 rfl) ?_
    refine lv_iconst (v := 2) hx hb dL_law__1340 (by decide) ?_
    refine lv_iadd hx hb dL_law__1341 ?_
    refine lv_topi (fun x_10 ex_10 => ?_)
    obtain rfl : x_10 = 2 := ex_10.trans (by decide)
    refine va_sld hx hb hX hbl hbA hS (pz_inK (by decide)) dL_law__1342 ?_
    refine lv_aload_n hx hb dL_law__1343 rfl (lv_at hl 5 rfl) ?_
    refine lv_iload hx hb dL_law__1344 (lv_at hl 1 rfl) ?_
    refine lv_iconst (v := 3) hx hb dL_law__1346 (by decide) ?_
    refine lv_iadd hx hb dL_law__1347 ?_
    refine lv_topi (fun x_11 ex_11 => ?_)
    obtain rfl : x_11 = 3 := ex_11.trans (by decide)
    refine va_sld hx hb hX hbl hbA hS (pz_inK (by decide)) dL_law__1348 ?_
    have hPc := hP.sub (ws' := [(g 0, .inr (13, [.ref (g 1), .int 0, .int 0, .int 0, .int 0, .int 0, .int 0, .int 0, .int 0, .int 0, .int (-1), .long 0, .long 0, .ref (g 14), .ref (g 15), .ref (g 16), .ref (g 17), .ref (g 18), .ref (g 19), .ref (g 20), .ref (g 21), .ref (g 22), .ref (g 23), .ref (g 24), .ref (g 25), .ref (g 26), .ref (g 27), .ref (g 28), .ref (g 29), .ref (g 30), .ref (g 31), .ref (g 32), .ref (g 33), .ref (g 34), .ref (g 35), .ref (g 36), .ref (g 37), .ref (g 38), .ref (g 39), .ref (g 40), .ref (g 41), .ref (g 42), .ref (g 43), .ref (g 44), .ref (g 45), .ref (g 46), .ref (g 47), .ref (g 48), .ref (g 49), .ref (g 50), .ref (g 51), .ref (g 52), .ref (g 53), .ref (g 54), .ref (g 55), .ref (g 56), .ref (g 57), .ref (g 58), .ref (g 59), .int 0, .int 0, .int 0, .int 0, .int 0, .int 0, .int 0, .int 0, .int 0, .int 0, .ref (g 70)]))]) [0] rfl
    have hDc := hD.sub (ws' := [(g 0, .inr (13, [.ref (g 1), .int 0, .int 0, .int 0, .int 0, .int 0, .int 0, .int 0, .int 0, .int 0, .int (-1), .long 0, .long 0, .ref (g 14), .ref (g 15), .ref (g 16), .ref (g 17), .ref (g 18), .ref (g 19), .ref (g 20), .ref (g 21), .ref (g 22), .ref (g 23), .ref (g 24), .ref (g 25), .ref (g 26), .ref (g 27), .ref (g 28), .ref (g 29), .ref (g 30), .ref (g 31), .ref (g 32), .ref (g 33), .ref (g 34), .ref (g 35), .ref (g 36), .ref (g 37), .ref (g 38), .ref (g 39), .ref (g 40), .ref (g 41), .ref (g 42), .ref (g 43), .ref (g 44), .ref (g 45), .ref (g 46), .ref (g 47), .ref (g 48), .ref (g 49), .ref (g 50), .ref (g 51), .ref (g 52), .ref (g 53), .ref (g 54), .ref (g 55), .ref (g 56), .ref (g 57), .ref (g 58), .ref (g 59), .int 0, .int 0, .int 0, .int 0, .int 0, .int 0, .int 0, .int 0, .int 0, .int 0, .ref (g 70)]))]) [0] (by decide) rfl
    have hKc := hK.sub (tys' := []) [] rfl
    have hFc := va_free (wc := [(g 0, .inr (13, [.ref (g 1), .int 0, .int 0, .int 0, .int 0, .int 0, .int 0, .int 0, .int 0, .int 0, .int (-1), .long 0, .long 0, .ref (g 14), .ref (g 15), .ref (g 16), .ref (g 17), .ref (g 18), .ref (g 19), .ref (g 20), .ref (g 21), .ref (g 22), .ref (g 23), .ref (g 24), .ref (g 25), .ref (g 26), .ref (g 27), .ref (g 28), .ref (g 29), .ref (g 30), .ref (g 31), .ref (g 32), .ref (g 33), .ref (g 34), .ref (g 35), .ref (g 36), .ref (g 37), .ref (g 38), .ref (g 39), .ref (g 40), .ref (g 41), .ref (g 42), .ref (g 43), .ref (g 44), .ref (g 45), .ref (g 46), .ref (g 47), .ref (g 48), .ref (g 49), .ref (g 50), .ref (g 51), .ref (g 52), .ref (g 53), .ref (g 54), .ref (g 55), .ref (g 56), .ref (g 57), .ref (g 58), .ref (g 59), .int 0, .int 0, .int 0, .int 0, .int 0, .int 0, .int 0, .int 0, .int 0, .int 0, .ref (g 70)]))]) hD hS hA [0] rfl
    refine va_calli (va_runV (As := [.int (xs (Int32.toNatClampNeg 1)), .int (xs (Int32.toNatClampNeg 2)), .int (xs (Int32.toNatClampNeg 3))]) (rest := []) ⟨hx, hb, hml, hown, hts⟩ (c_X12_inCell l hlt e0 dC dI H.size g (xs (Int32.toNatClampNeg 1)) (xs (Int32.toNatClampNeg 2)) (xs (Int32.toNatClampNeg 3))) (cwV 3 hts gL_law__X12_inCell rfl rfl rfl (by decide +kernel) ⟨Nat.le_of_ble_eq_true rfl, Nat.le_of_ble_eq_true rfl⟩) (pz_preV [.int (xs (Int32.toNatClampNeg 1)), .int (xs (Int32.toNatClampNeg 2)), .int (xs (Int32.toNatClampNeg 3))] hPc hDc hKc hZ hV hT hS hFc (va_recv hKc hPc (ci := 13) (q0 := 0) rfl rfl)) rfl rfl hl.1 rfl (lv_room (Nat.le_of_ble_eq_true rfl)) dL_law__1349 ⟨Nat.le_of_ble_eq_true rfl, Nat.le_of_ble_eq_true rfl⟩) hS (fun q _ h => hFc q h) hFc (fun r_12 u_13 t H locs ht hvm hw_14 hB_15 hz1 hk1 hS => ?_)
    obtain ⟨hP1, hD1⟩ := hB_15
    rw [ht] at hP1
    obtain ⟨hP, hD⟩ := va_join (wr := []) (w1 := [(g 0, .inr (13, u_13))]) hP hD [0] [] rfl rfl (by decide) (by decide) hk1 hFc hP1 hD1
    have hP : va_P (dC, dI) vwCl [(g 0, .inr (13, u_13))] H := hP
    have hD : va_D A [(g 0, .inr (13, u_13))] := hD
    refine lv_istore (lv' := [(6, .int r_12), (5, .int 1), (4, .int 0), (3, .ref qo), (2, .ref (g 0)), (1, .ref (h 0)), (0, .ref b)]) hx hb dL_law__1352 hl (by decide) rfl (fun ls hl => ?_)
    refine lv_aload_n hx hb dL_law__1354 rfl (lv_at hl 4 rfl) ?_
    have hPc := hP.sub (ws' := [(g 0, .inr (13, u_13))]) [0] rfl
    have hDc := hD.sub (ws' := [(g 0, .inr (13, u_13))]) [0] (by decide) rfl
    have hKc := hK.sub (tys' := []) [] rfl
    have hFc := va_free (wc := [(g 0, .inr (13, u_13))]) hD hS hA [0] rfl
    refine va_calli (va_runV (As := []) (rest := []) ⟨hx, hb, hml, hown, hts⟩ (c_X12_thrown l hlt e0 dC dI H.size (g 0) u_13 1 hw_14) (cwV 0 hts gL_law__X12_thrown rfl rfl rfl (by decide +kernel) ⟨Nat.le_of_ble_eq_true rfl, Nat.le_of_ble_eq_true rfl⟩) (pz_preV [] hPc hDc hKc hZ hV hT hS hFc (va_recv hKc hPc (ci := 13) (q0 := 0) rfl rfl)) rfl rfl hl.1 rfl (lv_room (Nat.le_of_ble_eq_true rfl)) dL_law__1355 ⟨Nat.le_of_ble_eq_true rfl, Nat.le_of_ble_eq_true rfl⟩) hS (fun q _ h => hFc q h) hFc (fun r_16 u_17 t H locs ht hvm hw_18 hB_19 hz1 hk1 hS => ?_)
    obtain ⟨hP, hD⟩ := pz_rest (wr := []) hP hD [0] [] rfl rfl (by decide) (by decide) hk1 hFc
    subst hw_18
    refine lv_iload hx hb dL_law__1358 (lv_at hl 1 rfl) ?_
    refine lv_icmp_eq (tgt := 1365) hx hb dL_law__1360 (by decide) (fun c_20 => ?_) (fun c_20 => ?_)
    rotate_left
    · exact absurd c_20 (by decide)
    refine lv_iload hx hb dL_law__1365 (lv_at hl 1 rfl) ?_
    refine lv_if_ne (tgt := 1382) hx hb dL_law__1367 (by decide) (fun c_21 => ?_) (fun c_21 => ?_)
    rotate_left
    · exact absurd c_21 (by decide)
    refine lv_goto (tgt := 1743) hx hb dL_law__1382 (by decide) ?_
    exact lc_end l C0 (Nat.le_of_ble_eq_true rfl) (Nat.le_of_ble_eq_true rfl) hAe hS ls (lv_sub hl [2, 6] rfl)
set_option maxHeartbeats 8000000 in
set_option maxRecDepth 100000 in
/-- the law's case 18: heap -/
theorem lc_heap {p : Program} {e : Env} {s : State} {m : MethodId} {below : List Frame} {meth : Method} {c : Code} (l : Launch) (hlt : l.stackTraces = false) {b : Nat} {xs : Nat → Int32} (C0 : lw_At p s m meth c b 6 xs) (e0 : Nat) (dC : Nat → ClassId) (dI : Nat → Nat → Nat) (h g : Nat → Nat) (ca cb : Nat → ClassId) (qo : Nat) (cO : ClassId) (fo : Nat → Int64) {A : Nat → Prop} (hAe : (fun q : Nat => s.heap.size ≤ q) = A) {H : Heap} {locs : List Loc} (hK : va_K (dC, dI) vwCl [(cO, .long)] s) (hP : va_P (dC, dI) vwCl [(h 0, .inr (12, [.ref (h 1), .ref (h 2), .ref (h 3), .ref (h 4), .ref (h 5), .ref (h 6), .ref (h 8), .ref (h 12), .ref (h 11), .int 0, .int 0, .int (-1), .long 0, .long 0])), (h 1, .inr (0, [.int 0, .ref e0, .int 0])), (qo, .inl (cO, 1, .inr (.inl fo))), (g 0, .inr (13, [.ref (g 1), .int 0, .int 0, .int 0, .int 0, .int 0, .int 0, .int 0, .int 0, .int 0, .int (-1), .long 0, .long 0, .ref (g 14), .ref (g 15), .ref (g 16), .ref (g 17), .ref (g 18), .ref (g 19), .ref (g 20), .ref (g 21), .ref (g 22), .ref (g 23), .ref (g 24), .ref (g 25), .ref (g 26), .ref (g 27), .ref (g 28), .ref (g 29), .ref (g 30), .ref (g 31), .ref (g 32), .ref (g 33), .ref (g 34), .ref (g 35), .ref (g 36), .ref (g 37), .ref (g 38), .ref (g 39), .ref (g 40), .ref (g 41), .ref (g 42), .ref (g 43), .ref (g 44), .ref (g 45), .ref (g 46), .ref (g 47), .ref (g 48), .ref (g 49), .ref (g 50), .ref (g 51), .ref (g 52), .ref (g 53), .ref (g 54), .ref (g 55), .ref (g 56), .ref (g 57), .ref (g 58), .ref (g 59), .int 0, .int 0, .int 0, .int 0, .int 0, .int 0, .int 0, .int 0, .int 0, .int 0, .ref (g 70)]))] H) (hD : va_D A [(h 0, .inr (12, [.ref (h 1), .ref (h 2), .ref (h 3), .ref (h 4), .ref (h 5), .ref (h 6), .ref (h 8), .ref (h 12), .ref (h 11), .int 0, .int 0, .int (-1), .long 0, .long 0])), (h 1, .inr (0, [.int 0, .ref e0, .int 0])), (qo, .inl (cO, 1, .inr (.inl fo))), (g 0, .inr (13, [.ref (g 1), .int 0, .int 0, .int 0, .int 0, .int 0, .int 0, .int 0, .int 0, .int 0, .int (-1), .long 0, .long 0, .ref (g 14), .ref (g 15), .ref (g 16), .ref (g 17), .ref (g 18), .ref (g 19), .ref (g 20), .ref (g 21), .ref (g 22), .ref (g 23), .ref (g 24), .ref (g 25), .ref (g 26), .ref (g 27), .ref (g 28), .ref (g 29), .ref (g 30), .ref (g 31), .ref (g 32), .ref (g 33), .ref (g 34), .ref (g 35), .ref (g 36), .ref (g 37), .ref (g 38), .ref (g 39), .ref (g 40), .ref (g 41), .ref (g 42), .ref (g 43), .ref (g 44), .ref (g 45), .ref (g 46), .ref (g 47), .ref (g 48), .ref (g 49), .ref (g 50), .ref (g 51), .ref (g 52), .ref (g 53), .ref (g 54), .ref (g 55), .ref (g 56), .ref (g 57), .ref (g 58), .ref (g 59), .int 0, .int 0, .int 0, .int 0, .int 0, .int 0, .int 0, .int 0, .int 0, .int 0, .ref (g 70)]))]) (hS : va_S A s.heap H locs) (hZ : pz_s e0 A s s.heap) (hV : pz_v s) (hT : pz_t A s s.heap) (ls : Array Slot) (hl : lv_has ls 8 [(4, .int 0), (3, .ref qo), (2, .ref (g 0)), (1, .ref (h 0)), (0, .ref b)]) : W p l e room_1 s m #[Value.ref b] below meth c H locs 300 100000 (lw_Z below #[Value.ref b] s) (F0 m 1385 ls []) := by
  obtain ⟨hx, hb, hr, hml, hown, hts, hX, hbl, hlocks, hgv⟩ := id C0
  have hown : s.vm.findClass RL = some m.cls := hown
  have hts := fun w h => hts w (wsL_law__in w h)
  have hA : ∀ q : Nat, s.heap.size ≤ q → A q := fun q h => by rw [← hAe]; exact h
  have hbA : ¬ A b := by rw [← hAe]; exact Nat.not_le.mpr hbl
  refine lv_aload_n hx hb dL_law__1385 rfl (lv_at hl 3 rfl) ?_
  refine lv_aload_n hx hb dL_law__1386 rfl (lv_at hl 4 rfl) ?_
  refine lv_iload hx hb dL_law__1387 (lv_at hl 0 rfl) ?_
  refine lv_iconst (v := 1) hx hb dL_law__1389 (by decide) ?_
  refine lv_iadd hx hb dL_law__1390 ?_
  refine lv_topi (fun x_1 ex_1 => ?_)
  obtain rfl : x_1 = 1 := ex_1.trans (by decide)
  refine va_sld hx hb hX hbl hbA hS (pz_inK (by decide)) dL_law__1391 ?_
  refine lv_aload_n hx hb dL_law__1392 rfl (lv_at hl 4 rfl) ?_
  refine lv_iload hx hb dL_law__1393 (lv_at hl 0 rfl) ?_
  refine lv_iconst (v := 2) hx hb dL_law__1395 (by decide) ?_
  refine lv_iadd hx hb dL_law__1396 ?_
  refine lv_topi (fun x_2 ex_2 => ?_)
  obtain rfl : x_2 = 2 := ex_2.trans (by decide)
  refine va_sld hx hb hX hbl hbA hS (pz_inK (by decide)) dL_law__1397 ?_
  refine lv_aload_n hx hb dL_law__1398 rfl (lv_at hl 1 rfl) ?_
  have hPc := hP.sub (ws' := [(h 0, .inr (12, [.ref (h 1), .ref (h 2), .ref (h 3), .ref (h 4), .ref (h 5), .ref (h 6), .ref (h 8), .ref (h 12), .ref (h 11), .int 0, .int 0, .int (-1), .long 0, .long 0])), (h 1, .inr (0, [.int 0, .ref e0, .int 0])), (qo, .inl (cO, 1, .inr (.inl fo)))]) [0, 1, 2] rfl
  have hDc := hD.sub (ws' := [(h 0, .inr (12, [.ref (h 1), .ref (h 2), .ref (h 3), .ref (h 4), .ref (h 5), .ref (h 6), .ref (h 8), .ref (h 12), .ref (h 11), .int 0, .int 0, .int (-1), .long 0, .long 0])), (h 1, .inr (0, [.int 0, .ref e0, .int 0])), (qo, .inl (cO, 1, .inr (.inl fo)))]) [0, 1, 2] (by decide) rfl
  have hKc := hK.sub (tys' := [(cO, .long)]) [0] rfl
  have hFc := va_free (wc := [(h 0, .inr (12, [.ref (h 1), .ref (h 2), .ref (h 3), .ref (h 4), .ref (h 5), .ref (h 6), .ref (h 8), .ref (h 12), .ref (h 11), .int 0, .int 0, .int (-1), .long 0, .long 0])), (h 1, .inr (0, [.int 0, .ref e0, .int 0])), (qo, .inl (cO, 1, .inr (.inl fo)))]) hD hS hA [0, 1, 2] rfl
  refine vx_calli (vx_runSX (As := [.ref (h 0), .int (xs (Int32.toNatClampNeg 1)), .int (xs (Int32.toNatClampNeg 2)), .ref qo]) (rest := []) ⟨hx, hb, hml, hown, hts⟩ (c_L_heap l hlt e0 dC dI H.size h qo cO fo (xs (Int32.toNatClampNeg 1)) (xs (Int32.toNatClampNeg 2))) (vx_cwSW 4 hts gL_law__L_heap rfl rfl rfl (by decide +kernel) ⟨Nat.le_of_ble_eq_true rfl, Nat.le_of_ble_eq_true rfl⟩) (pz_preS [.ref (h 0), .int (xs (Int32.toNatClampNeg 1)), .int (xs (Int32.toNatClampNeg 2)), .ref qo] hPc hDc hKc hZ hV hT hS hFc) rfl rfl hl.1 rfl (lv_room (Nat.le_of_ble_eq_true rfl)) dL_law__1399 ⟨Nat.le_of_ble_eq_true rfl, Nat.le_of_ble_eq_true rfl⟩) hS (fun q _ h => hFc q h) hFc (fun q _ h => hFc q h) (fun E ce qx_7 u_4 t H locs ht hvm hpx hE hz1 hk1 hS hce hcv hcl => ?_) (fun r_3 u_4 t H locs ht hvm hw_5 hB_6 hz1 hk1 hS => ?_)
  ·
    exact hpx.elim
  ·
    obtain ⟨hP, hD⟩ := pz_rest (wr := [(g 0, .inr (13, [.ref (g 1), .int 0, .int 0, .int 0, .int 0, .int 0, .int 0, .int 0, .int 0, .int 0, .int (-1), .long 0, .long 0, .ref (g 14), .ref (g 15), .ref (g 16), .ref (g 17), .ref (g 18), .ref (g 19), .ref (g 20), .ref (g 21), .ref (g 22), .ref (g 23), .ref (g 24), .ref (g 25), .ref (g 26), .ref (g 27), .ref (g 28), .ref (g 29), .ref (g 30), .ref (g 31), .ref (g 32), .ref (g 33), .ref (g 34), .ref (g 35), .ref (g 36), .ref (g 37), .ref (g 38), .ref (g 39), .ref (g 40), .ref (g 41), .ref (g 42), .ref (g 43), .ref (g 44), .ref (g 45), .ref (g 46), .ref (g 47), .ref (g 48), .ref (g 49), .ref (g 50), .ref (g 51), .ref (g 52), .ref (g 53), .ref (g 54), .ref (g 55), .ref (g 56), .ref (g 57), .ref (g 58), .ref (g 59), .int 0, .int 0, .int 0, .int 0, .int 0, .int 0, .int 0, .int 0, .int 0, .int 0, .ref (g 70)]))]) hP hD [0, 1, 2] [3] rfl rfl (by decide) (by decide) hk1 hFc
    subst hw_5
    refine lv_istore (lv' := [(5, .int 1), (4, .int 0), (3, .ref qo), (2, .ref (g 0)), (1, .ref (h 0)), (0, .ref b)]) hx hb dL_law__1402 hl (by decide) rfl (fun ls hl => ?_)
    refine lv_aload_n hx hb dL_law__1404 rfl (lv_at hl 3 rfl) ?_
    refine lv_aload_n hx hb dL_law__1405 rfl (lv_at hl 5 rfl) ?_
    refine lv_iload hx hb dL_law__1406 (lv_at hl 1 rfl) ?_
    refine lv_iconst (v := 1) hx hb dL_law__1408 (by decide) ?_
    refine lv_iadd hx hb dL_law__1409 ?_
    refine lv_topi (fun x_8 ex_8 => ?_)
    obtain rfl : x_8 = 1 := ex_8.trans (by decide)
    refine va_sld hx hb hX hbl hbA hS (pz_inK (by decide)) dL_law__1410 ?_
    refine lv_aload_n hx hb dL_law__1411 rfl (lv_at hl 5 rfl) ?_
    refine lv_iload hx hb dL_law__1412 (lv_at hl 1 rfl) ?_
    refine lv_iconst (v := 2) hx hb dL_law__1414 (by decide) ?_
    refine lv_iadd hx hb dL_law__1415 ?_
    refine lv_topi (fun x_9 ex_9 => ?_)
    obtain rfl : x_9 = 2 := ex_9.trans (by decide)
    refine va_sld hx hb hX hbl hbA hS (pz_inK (by decide)) dL_law__1416 ?_
    have hPc := hP.sub (ws' := [(g 0, .inr (13, [.ref (g 1), .int 0, .int 0, .int 0, .int 0, .int 0, .int 0, .int 0, .int 0, .int 0, .int (-1), .long 0, .long 0, .ref (g 14), .ref (g 15), .ref (g 16), .ref (g 17), .ref (g 18), .ref (g 19), .ref (g 20), .ref (g 21), .ref (g 22), .ref (g 23), .ref (g 24), .ref (g 25), .ref (g 26), .ref (g 27), .ref (g 28), .ref (g 29), .ref (g 30), .ref (g 31), .ref (g 32), .ref (g 33), .ref (g 34), .ref (g 35), .ref (g 36), .ref (g 37), .ref (g 38), .ref (g 39), .ref (g 40), .ref (g 41), .ref (g 42), .ref (g 43), .ref (g 44), .ref (g 45), .ref (g 46), .ref (g 47), .ref (g 48), .ref (g 49), .ref (g 50), .ref (g 51), .ref (g 52), .ref (g 53), .ref (g 54), .ref (g 55), .ref (g 56), .ref (g 57), .ref (g 58), .ref (g 59), .int 0, .int 0, .int 0, .int 0, .int 0, .int 0, .int 0, .int 0, .int 0, .int 0, .ref (g 70)]))]) [0] rfl
    have hDc := hD.sub (ws' := [(g 0, .inr (13, [.ref (g 1), .int 0, .int 0, .int 0, .int 0, .int 0, .int 0, .int 0, .int 0, .int 0, .int (-1), .long 0, .long 0, .ref (g 14), .ref (g 15), .ref (g 16), .ref (g 17), .ref (g 18), .ref (g 19), .ref (g 20), .ref (g 21), .ref (g 22), .ref (g 23), .ref (g 24), .ref (g 25), .ref (g 26), .ref (g 27), .ref (g 28), .ref (g 29), .ref (g 30), .ref (g 31), .ref (g 32), .ref (g 33), .ref (g 34), .ref (g 35), .ref (g 36), .ref (g 37), .ref (g 38), .ref (g 39), .ref (g 40), .ref (g 41), .ref (g 42), .ref (g 43), .ref (g 44), .ref (g 45), .ref (g 46), .ref (g 47), .ref (g 48), .ref (g 49), .ref (g 50), .ref (g 51), .ref (g 52), .ref (g 53), .ref (g 54), .ref (g 55), .ref (g 56), .ref (g 57), .ref (g 58), .ref (g 59), .int 0, .int 0, .int 0, .int 0, .int 0, .int 0, .int 0, .int 0, .int 0, .int 0, .ref (g 70)]))]) [0] (by decide) rfl
    have hKc := hK.sub (tys' := []) [] rfl
    have hFc := va_free (wc := [(g 0, .inr (13, [.ref (g 1), .int 0, .int 0, .int 0, .int 0, .int 0, .int 0, .int 0, .int 0, .int 0, .int (-1), .long 0, .long 0, .ref (g 14), .ref (g 15), .ref (g 16), .ref (g 17), .ref (g 18), .ref (g 19), .ref (g 20), .ref (g 21), .ref (g 22), .ref (g 23), .ref (g 24), .ref (g 25), .ref (g 26), .ref (g 27), .ref (g 28), .ref (g 29), .ref (g 30), .ref (g 31), .ref (g 32), .ref (g 33), .ref (g 34), .ref (g 35), .ref (g 36), .ref (g 37), .ref (g 38), .ref (g 39), .ref (g 40), .ref (g 41), .ref (g 42), .ref (g 43), .ref (g 44), .ref (g 45), .ref (g 46), .ref (g 47), .ref (g 48), .ref (g 49), .ref (g 50), .ref (g 51), .ref (g 52), .ref (g 53), .ref (g 54), .ref (g 55), .ref (g 56), .ref (g 57), .ref (g 58), .ref (g 59), .int 0, .int 0, .int 0, .int 0, .int 0, .int 0, .int 0, .int 0, .int 0, .int 0, .ref (g 70)]))]) hD hS hA [0] rfl
    refine va_calli (va_runV (As := [.int (xs (Int32.toNatClampNeg 1)), .int (xs (Int32.toNatClampNeg 2))]) (rest := []) ⟨hx, hb, hml, hown, hts⟩ (c_X12_heap l hlt e0 dC dI H.size g (xs (Int32.toNatClampNeg 1)) (xs (Int32.toNatClampNeg 2))) (cwV 2 hts gL_law__X12_heap rfl rfl rfl (by decide +kernel) ⟨Nat.le_of_ble_eq_true rfl, Nat.le_of_ble_eq_true rfl⟩) (pz_preV [.int (xs (Int32.toNatClampNeg 1)), .int (xs (Int32.toNatClampNeg 2))] hPc hDc hKc hZ hV hT hS hFc (va_recv hKc hPc (ci := 13) (q0 := 0) rfl rfl)) rfl rfl hl.1 rfl (lv_room (Nat.le_of_ble_eq_true rfl)) dL_law__1417 ⟨Nat.le_of_ble_eq_true rfl, Nat.le_of_ble_eq_true rfl⟩) hS (fun q _ h => hFc q h) hFc (fun r_10 u_11 t H locs ht hvm hw_12 hB_13 hz1 hk1 hS => ?_)
    obtain ⟨hP1, hD1⟩ := hB_13
    rw [ht] at hP1
    obtain ⟨hP, hD⟩ := va_join (wr := []) (w1 := [(g 0, .inr (13, u_11))]) hP hD [0] [] rfl rfl (by decide) (by decide) hk1 hFc hP1 hD1
    have hP : va_P (dC, dI) vwCl [(g 0, .inr (13, u_11))] H := hP
    have hD : va_D A [(g 0, .inr (13, u_11))] := hD
    refine lv_istore (lv' := [(6, .int r_10), (5, .int 1), (4, .int 0), (3, .ref qo), (2, .ref (g 0)), (1, .ref (h 0)), (0, .ref b)]) hx hb dL_law__1420 hl (by decide) rfl (fun ls hl => ?_)
    refine lv_aload_n hx hb dL_law__1422 rfl (lv_at hl 4 rfl) ?_
    have hPc := hP.sub (ws' := [(g 0, .inr (13, u_11))]) [0] rfl
    have hDc := hD.sub (ws' := [(g 0, .inr (13, u_11))]) [0] (by decide) rfl
    have hKc := hK.sub (tys' := []) [] rfl
    have hFc := va_free (wc := [(g 0, .inr (13, u_11))]) hD hS hA [0] rfl
    refine va_calli (va_runV (As := []) (rest := []) ⟨hx, hb, hml, hown, hts⟩ (c_X12_thrown l hlt e0 dC dI H.size (g 0) u_11 1 hw_12) (cwV 0 hts gL_law__X12_thrown rfl rfl rfl (by decide +kernel) ⟨Nat.le_of_ble_eq_true rfl, Nat.le_of_ble_eq_true rfl⟩) (pz_preV [] hPc hDc hKc hZ hV hT hS hFc (va_recv hKc hPc (ci := 13) (q0 := 0) rfl rfl)) rfl rfl hl.1 rfl (lv_room (Nat.le_of_ble_eq_true rfl)) dL_law__1423 ⟨Nat.le_of_ble_eq_true rfl, Nat.le_of_ble_eq_true rfl⟩) hS (fun q _ h => hFc q h) hFc (fun r_14 u_15 t H locs ht hvm hw_16 hB_17 hz1 hk1 hS => ?_)
    obtain ⟨hP, hD⟩ := pz_rest (wr := []) hP hD [0] [] rfl rfl (by decide) (by decide) hk1 hFc
    subst hw_16
    refine lv_iload hx hb dL_law__1426 (lv_at hl 1 rfl) ?_
    refine lv_icmp_eq (tgt := 1433) hx hb dL_law__1428 (by decide) (fun c_18 => ?_) (fun c_18 => ?_)
    rotate_left
    · exact absurd c_18 (by decide)
    refine lv_iload hx hb dL_law__1433 (lv_at hl 1 rfl) ?_
    refine lv_if_ne (tgt := 1450) hx hb dL_law__1435 (by decide) (fun c_19 => ?_) (fun c_19 => ?_)
    rotate_left
    · exact absurd c_19 (by decide)
    refine lv_goto (tgt := 1743) hx hb dL_law__1450 (by decide) ?_
    exact lc_end l C0 (Nat.le_of_ble_eq_true rfl) (Nat.le_of_ble_eq_true rfl) hAe hS ls (lv_sub hl [2, 6] rfl)
set_option maxHeartbeats 8000000 in
set_option maxRecDepth 100000 in
/-- the law's case 19: water -/
theorem lc_water {p : Program} {e : Env} {s : State} {m : MethodId} {below : List Frame} {meth : Method} {c : Code} (l : Launch) (hlt : l.stackTraces = false) {b : Nat} {xs : Nat → Int32} (C0 : lw_At p s m meth c b 6 xs) (e0 : Nat) (dC : Nat → ClassId) (dI : Nat → Nat → Nat) (h g : Nat → Nat) (ca cb : Nat → ClassId) (qo : Nat) (cO : ClassId) (fo : Nat → Int64) {A : Nat → Prop} (hAe : (fun q : Nat => s.heap.size ≤ q) = A) {H : Heap} {locs : List Loc} (hK : va_K (dC, dI) vwCl [(cO, .long)] s) (hP : va_P (dC, dI) vwCl [(h 0, .inr (12, [.ref (h 1), .ref (h 2), .ref (h 3), .ref (h 4), .ref (h 5), .ref (h 6), .ref (h 8), .ref (h 12), .ref (h 11), .int 0, .int 0, .int (-1), .long 0, .long 0])), (h 1, .inr (0, [.int 0, .ref e0, .int 0])), (qo, .inl (cO, 1, .inr (.inl fo))), (g 0, .inr (13, [.ref (g 1), .int 0, .int 0, .int 0, .int 0, .int 0, .int 0, .int 0, .int 0, .int 0, .int (-1), .long 0, .long 0, .ref (g 14), .ref (g 15), .ref (g 16), .ref (g 17), .ref (g 18), .ref (g 19), .ref (g 20), .ref (g 21), .ref (g 22), .ref (g 23), .ref (g 24), .ref (g 25), .ref (g 26), .ref (g 27), .ref (g 28), .ref (g 29), .ref (g 30), .ref (g 31), .ref (g 32), .ref (g 33), .ref (g 34), .ref (g 35), .ref (g 36), .ref (g 37), .ref (g 38), .ref (g 39), .ref (g 40), .ref (g 41), .ref (g 42), .ref (g 43), .ref (g 44), .ref (g 45), .ref (g 46), .ref (g 47), .ref (g 48), .ref (g 49), .ref (g 50), .ref (g 51), .ref (g 52), .ref (g 53), .ref (g 54), .ref (g 55), .ref (g 56), .ref (g 57), .ref (g 58), .ref (g 59), .int 0, .int 0, .int 0, .int 0, .int 0, .int 0, .int 0, .int 0, .int 0, .int 0, .ref (g 70)]))] H) (hD : va_D A [(h 0, .inr (12, [.ref (h 1), .ref (h 2), .ref (h 3), .ref (h 4), .ref (h 5), .ref (h 6), .ref (h 8), .ref (h 12), .ref (h 11), .int 0, .int 0, .int (-1), .long 0, .long 0])), (h 1, .inr (0, [.int 0, .ref e0, .int 0])), (qo, .inl (cO, 1, .inr (.inl fo))), (g 0, .inr (13, [.ref (g 1), .int 0, .int 0, .int 0, .int 0, .int 0, .int 0, .int 0, .int 0, .int 0, .int (-1), .long 0, .long 0, .ref (g 14), .ref (g 15), .ref (g 16), .ref (g 17), .ref (g 18), .ref (g 19), .ref (g 20), .ref (g 21), .ref (g 22), .ref (g 23), .ref (g 24), .ref (g 25), .ref (g 26), .ref (g 27), .ref (g 28), .ref (g 29), .ref (g 30), .ref (g 31), .ref (g 32), .ref (g 33), .ref (g 34), .ref (g 35), .ref (g 36), .ref (g 37), .ref (g 38), .ref (g 39), .ref (g 40), .ref (g 41), .ref (g 42), .ref (g 43), .ref (g 44), .ref (g 45), .ref (g 46), .ref (g 47), .ref (g 48), .ref (g 49), .ref (g 50), .ref (g 51), .ref (g 52), .ref (g 53), .ref (g 54), .ref (g 55), .ref (g 56), .ref (g 57), .ref (g 58), .ref (g 59), .int 0, .int 0, .int 0, .int 0, .int 0, .int 0, .int 0, .int 0, .int 0, .int 0, .ref (g 70)]))]) (hS : va_S A s.heap H locs) (hZ : pz_s e0 A s s.heap) (hV : pz_v s) (hT : pz_t A s s.heap) (ls : Array Slot) (hl : lv_has ls 8 [(4, .int 0), (3, .ref qo), (2, .ref (g 0)), (1, .ref (h 0)), (0, .ref b)]) : W p l e room_1 s m #[Value.ref b] below meth c H locs 300 100000 (lw_Z below #[Value.ref b] s) (F0 m 1453 ls []) := by
  obtain ⟨hx, hb, hr, hml, hown, hts, hX, hbl, hlocks, hgv⟩ := id C0
  have hown : s.vm.findClass RL = some m.cls := hown
  have hts := fun w h => hts w (wsL_law__in w h)
  have hA : ∀ q : Nat, s.heap.size ≤ q → A q := fun q h => by rw [← hAe]; exact h
  have hbA : ¬ A b := by rw [← hAe]; exact Nat.not_le.mpr hbl
  refine lv_aload_n hx hb dL_law__1453 rfl (lv_at hl 3 rfl) ?_
  refine lv_aload_n hx hb dL_law__1454 rfl (lv_at hl 4 rfl) ?_
  refine lv_iload hx hb dL_law__1455 (lv_at hl 0 rfl) ?_
  refine lv_iconst (v := 1) hx hb dL_law__1457 (by decide) ?_
  refine lv_iadd hx hb dL_law__1458 ?_
  refine lv_topi (fun x_1 ex_1 => ?_)
  obtain rfl : x_1 = 1 := ex_1.trans (by decide)
  refine va_sld hx hb hX hbl hbA hS (pz_inK (by decide)) dL_law__1459 ?_
  refine lv_aload_n hx hb dL_law__1460 rfl (lv_at hl 4 rfl) ?_
  refine lv_iload hx hb dL_law__1461 (lv_at hl 0 rfl) ?_
  refine lv_iconst (v := 2) hx hb dL_law__1463 (by decide) ?_
  refine lv_iadd hx hb dL_law__1464 ?_
  refine lv_topi (fun x_2 ex_2 => ?_)
  obtain rfl : x_2 = 2 := ex_2.trans (by decide)
  refine va_sld hx hb hX hbl hbA hS (pz_inK (by decide)) dL_law__1465 ?_
  refine lv_aload_n hx hb dL_law__1466 rfl (lv_at hl 1 rfl) ?_
  have hPc := hP.sub (ws' := [(h 0, .inr (12, [.ref (h 1), .ref (h 2), .ref (h 3), .ref (h 4), .ref (h 5), .ref (h 6), .ref (h 8), .ref (h 12), .ref (h 11), .int 0, .int 0, .int (-1), .long 0, .long 0])), (h 1, .inr (0, [.int 0, .ref e0, .int 0])), (qo, .inl (cO, 1, .inr (.inl fo)))]) [0, 1, 2] rfl
  have hDc := hD.sub (ws' := [(h 0, .inr (12, [.ref (h 1), .ref (h 2), .ref (h 3), .ref (h 4), .ref (h 5), .ref (h 6), .ref (h 8), .ref (h 12), .ref (h 11), .int 0, .int 0, .int (-1), .long 0, .long 0])), (h 1, .inr (0, [.int 0, .ref e0, .int 0])), (qo, .inl (cO, 1, .inr (.inl fo)))]) [0, 1, 2] (by decide) rfl
  have hKc := hK.sub (tys' := [(cO, .long)]) [0] rfl
  have hFc := va_free (wc := [(h 0, .inr (12, [.ref (h 1), .ref (h 2), .ref (h 3), .ref (h 4), .ref (h 5), .ref (h 6), .ref (h 8), .ref (h 12), .ref (h 11), .int 0, .int 0, .int (-1), .long 0, .long 0])), (h 1, .inr (0, [.int 0, .ref e0, .int 0])), (qo, .inl (cO, 1, .inr (.inl fo)))]) hD hS hA [0, 1, 2] rfl
  refine vx_calli (vx_runSX (As := [.ref (h 0), .int (xs (Int32.toNatClampNeg 1)), .int (xs (Int32.toNatClampNeg 2)), .ref qo]) (rest := []) ⟨hx, hb, hml, hown, hts⟩ (c_L_water l hlt e0 dC dI H.size h qo cO fo (xs (Int32.toNatClampNeg 1)) (xs (Int32.toNatClampNeg 2))) (vx_cwSW 4 hts gL_law__L_water rfl rfl rfl (by decide +kernel) ⟨Nat.le_of_ble_eq_true rfl, Nat.le_of_ble_eq_true rfl⟩) (pz_preS [.ref (h 0), .int (xs (Int32.toNatClampNeg 1)), .int (xs (Int32.toNatClampNeg 2)), .ref qo] hPc hDc hKc hZ hV hT hS hFc) rfl rfl hl.1 rfl (lv_room (Nat.le_of_ble_eq_true rfl)) dL_law__1467 ⟨Nat.le_of_ble_eq_true rfl, Nat.le_of_ble_eq_true rfl⟩) hS (fun q _ h => hFc q h) hFc (fun q _ h => hFc q h) (fun E ce qx_7 u_4 t H locs ht hvm hpx hE hz1 hk1 hS hce hcv hcl => ?_) (fun r_3 u_4 t H locs ht hvm hw_5 hB_6 hz1 hk1 hS => ?_)
  ·
    exact hpx.elim
  ·
    obtain ⟨hP, hD⟩ := pz_rest (wr := [(g 0, .inr (13, [.ref (g 1), .int 0, .int 0, .int 0, .int 0, .int 0, .int 0, .int 0, .int 0, .int 0, .int (-1), .long 0, .long 0, .ref (g 14), .ref (g 15), .ref (g 16), .ref (g 17), .ref (g 18), .ref (g 19), .ref (g 20), .ref (g 21), .ref (g 22), .ref (g 23), .ref (g 24), .ref (g 25), .ref (g 26), .ref (g 27), .ref (g 28), .ref (g 29), .ref (g 30), .ref (g 31), .ref (g 32), .ref (g 33), .ref (g 34), .ref (g 35), .ref (g 36), .ref (g 37), .ref (g 38), .ref (g 39), .ref (g 40), .ref (g 41), .ref (g 42), .ref (g 43), .ref (g 44), .ref (g 45), .ref (g 46), .ref (g 47), .ref (g 48), .ref (g 49), .ref (g 50), .ref (g 51), .ref (g 52), .ref (g 53), .ref (g 54), .ref (g 55), .ref (g 56), .ref (g 57), .ref (g 58), .ref (g 59), .int 0, .int 0, .int 0, .int 0, .int 0, .int 0, .int 0, .int 0, .int 0, .int 0, .ref (g 70)]))]) hP hD [0, 1, 2] [3] rfl rfl (by decide) (by decide) hk1 hFc
    subst hw_5
    refine lv_istore (lv' := [(5, .int 1), (4, .int 0), (3, .ref qo), (2, .ref (g 0)), (1, .ref (h 0)), (0, .ref b)]) hx hb dL_law__1470 hl (by decide) rfl (fun ls hl => ?_)
    refine lv_aload_n hx hb dL_law__1472 rfl (lv_at hl 3 rfl) ?_
    refine lv_aload_n hx hb dL_law__1473 rfl (lv_at hl 5 rfl) ?_
    refine lv_iload hx hb dL_law__1474 (lv_at hl 1 rfl) ?_
    refine lv_iconst (v := 1) hx hb dL_law__1476 (by decide) ?_
    refine lv_iadd hx hb dL_law__1477 ?_
    refine lv_topi (fun x_8 ex_8 => ?_)
    obtain rfl : x_8 = 1 := ex_8.trans (by decide)
    refine va_sld hx hb hX hbl hbA hS (pz_inK (by decide)) dL_law__1478 ?_
    refine lv_aload_n hx hb dL_law__1479 rfl (lv_at hl 5 rfl) ?_
    refine lv_iload hx hb dL_law__1480 (lv_at hl 1 rfl) ?_
    refine lv_iconst (v := 2) hx hb dL_law__1482 (by decide) ?_
    refine lv_iadd hx hb dL_law__1483 ?_
    refine lv_topi (fun x_9 ex_9 => ?_)
    obtain rfl : x_9 = 2 := ex_9.trans (by decide)
    refine va_sld hx hb hX hbl hbA hS (pz_inK (by decide)) dL_law__1484 ?_
    have hPc := hP.sub (ws' := [(g 0, .inr (13, [.ref (g 1), .int 0, .int 0, .int 0, .int 0, .int 0, .int 0, .int 0, .int 0, .int 0, .int (-1), .long 0, .long 0, .ref (g 14), .ref (g 15), .ref (g 16), .ref (g 17), .ref (g 18), .ref (g 19), .ref (g 20), .ref (g 21), .ref (g 22), .ref (g 23), .ref (g 24), .ref (g 25), .ref (g 26), .ref (g 27), .ref (g 28), .ref (g 29), .ref (g 30), .ref (g 31), .ref (g 32), .ref (g 33), .ref (g 34), .ref (g 35), .ref (g 36), .ref (g 37), .ref (g 38), .ref (g 39), .ref (g 40), .ref (g 41), .ref (g 42), .ref (g 43), .ref (g 44), .ref (g 45), .ref (g 46), .ref (g 47), .ref (g 48), .ref (g 49), .ref (g 50), .ref (g 51), .ref (g 52), .ref (g 53), .ref (g 54), .ref (g 55), .ref (g 56), .ref (g 57), .ref (g 58), .ref (g 59), .int 0, .int 0, .int 0, .int 0, .int 0, .int 0, .int 0, .int 0, .int 0, .int 0, .ref (g 70)]))]) [0] rfl
    have hDc := hD.sub (ws' := [(g 0, .inr (13, [.ref (g 1), .int 0, .int 0, .int 0, .int 0, .int 0, .int 0, .int 0, .int 0, .int 0, .int (-1), .long 0, .long 0, .ref (g 14), .ref (g 15), .ref (g 16), .ref (g 17), .ref (g 18), .ref (g 19), .ref (g 20), .ref (g 21), .ref (g 22), .ref (g 23), .ref (g 24), .ref (g 25), .ref (g 26), .ref (g 27), .ref (g 28), .ref (g 29), .ref (g 30), .ref (g 31), .ref (g 32), .ref (g 33), .ref (g 34), .ref (g 35), .ref (g 36), .ref (g 37), .ref (g 38), .ref (g 39), .ref (g 40), .ref (g 41), .ref (g 42), .ref (g 43), .ref (g 44), .ref (g 45), .ref (g 46), .ref (g 47), .ref (g 48), .ref (g 49), .ref (g 50), .ref (g 51), .ref (g 52), .ref (g 53), .ref (g 54), .ref (g 55), .ref (g 56), .ref (g 57), .ref (g 58), .ref (g 59), .int 0, .int 0, .int 0, .int 0, .int 0, .int 0, .int 0, .int 0, .int 0, .int 0, .ref (g 70)]))]) [0] (by decide) rfl
    have hKc := hK.sub (tys' := []) [] rfl
    have hFc := va_free (wc := [(g 0, .inr (13, [.ref (g 1), .int 0, .int 0, .int 0, .int 0, .int 0, .int 0, .int 0, .int 0, .int 0, .int (-1), .long 0, .long 0, .ref (g 14), .ref (g 15), .ref (g 16), .ref (g 17), .ref (g 18), .ref (g 19), .ref (g 20), .ref (g 21), .ref (g 22), .ref (g 23), .ref (g 24), .ref (g 25), .ref (g 26), .ref (g 27), .ref (g 28), .ref (g 29), .ref (g 30), .ref (g 31), .ref (g 32), .ref (g 33), .ref (g 34), .ref (g 35), .ref (g 36), .ref (g 37), .ref (g 38), .ref (g 39), .ref (g 40), .ref (g 41), .ref (g 42), .ref (g 43), .ref (g 44), .ref (g 45), .ref (g 46), .ref (g 47), .ref (g 48), .ref (g 49), .ref (g 50), .ref (g 51), .ref (g 52), .ref (g 53), .ref (g 54), .ref (g 55), .ref (g 56), .ref (g 57), .ref (g 58), .ref (g 59), .int 0, .int 0, .int 0, .int 0, .int 0, .int 0, .int 0, .int 0, .int 0, .int 0, .ref (g 70)]))]) hD hS hA [0] rfl
    refine va_calli (va_runV (As := [.int (xs (Int32.toNatClampNeg 1)), .int (xs (Int32.toNatClampNeg 2))]) (rest := []) ⟨hx, hb, hml, hown, hts⟩ (c_X12_water l hlt e0 dC dI H.size g (xs (Int32.toNatClampNeg 1)) (xs (Int32.toNatClampNeg 2))) (cwV 2 hts gL_law__X12_water rfl rfl rfl (by decide +kernel) ⟨Nat.le_of_ble_eq_true rfl, Nat.le_of_ble_eq_true rfl⟩) (pz_preV [.int (xs (Int32.toNatClampNeg 1)), .int (xs (Int32.toNatClampNeg 2))] hPc hDc hKc hZ hV hT hS hFc (va_recv hKc hPc (ci := 13) (q0 := 0) rfl rfl)) rfl rfl hl.1 rfl (lv_room (Nat.le_of_ble_eq_true rfl)) dL_law__1485 ⟨Nat.le_of_ble_eq_true rfl, Nat.le_of_ble_eq_true rfl⟩) hS (fun q _ h => hFc q h) hFc (fun r_10 u_11 t H locs ht hvm hw_12 hB_13 hz1 hk1 hS => ?_)
    obtain ⟨hP1, hD1⟩ := hB_13
    rw [ht] at hP1
    obtain ⟨hP, hD⟩ := va_join (wr := []) (w1 := [(g 0, .inr (13, u_11))]) hP hD [0] [] rfl rfl (by decide) (by decide) hk1 hFc hP1 hD1
    have hP : va_P (dC, dI) vwCl [(g 0, .inr (13, u_11))] H := hP
    have hD : va_D A [(g 0, .inr (13, u_11))] := hD
    refine lv_istore (lv' := [(6, .int r_10), (5, .int 1), (4, .int 0), (3, .ref qo), (2, .ref (g 0)), (1, .ref (h 0)), (0, .ref b)]) hx hb dL_law__1488 hl (by decide) rfl (fun ls hl => ?_)
    refine lv_aload_n hx hb dL_law__1490 rfl (lv_at hl 4 rfl) ?_
    have hPc := hP.sub (ws' := [(g 0, .inr (13, u_11))]) [0] rfl
    have hDc := hD.sub (ws' := [(g 0, .inr (13, u_11))]) [0] (by decide) rfl
    have hKc := hK.sub (tys' := []) [] rfl
    have hFc := va_free (wc := [(g 0, .inr (13, u_11))]) hD hS hA [0] rfl
    refine va_calli (va_runV (As := []) (rest := []) ⟨hx, hb, hml, hown, hts⟩ (c_X12_thrown l hlt e0 dC dI H.size (g 0) u_11 1 hw_12) (cwV 0 hts gL_law__X12_thrown rfl rfl rfl (by decide +kernel) ⟨Nat.le_of_ble_eq_true rfl, Nat.le_of_ble_eq_true rfl⟩) (pz_preV [] hPc hDc hKc hZ hV hT hS hFc (va_recv hKc hPc (ci := 13) (q0 := 0) rfl rfl)) rfl rfl hl.1 rfl (lv_room (Nat.le_of_ble_eq_true rfl)) dL_law__1491 ⟨Nat.le_of_ble_eq_true rfl, Nat.le_of_ble_eq_true rfl⟩) hS (fun q _ h => hFc q h) hFc (fun r_14 u_15 t H locs ht hvm hw_16 hB_17 hz1 hk1 hS => ?_)
    obtain ⟨hP, hD⟩ := pz_rest (wr := []) hP hD [0] [] rfl rfl (by decide) (by decide) hk1 hFc
    subst hw_16
    refine lv_iload hx hb dL_law__1494 (lv_at hl 1 rfl) ?_
    refine lv_icmp_eq (tgt := 1501) hx hb dL_law__1496 (by decide) (fun c_18 => ?_) (fun c_18 => ?_)
    rotate_left
    · exact absurd c_18 (by decide)
    refine lv_iload hx hb dL_law__1501 (lv_at hl 1 rfl) ?_
    refine lv_if_ne (tgt := 1518) hx hb dL_law__1503 (by decide) (fun c_19 => ?_) (fun c_19 => ?_)
    rotate_left
    · exact absurd c_19 (by decide)
    refine lv_goto (tgt := 1743) hx hb dL_law__1518 (by decide) ?_
    exact lc_end l C0 (Nat.le_of_ble_eq_true rfl) (Nat.le_of_ble_eq_true rfl) hAe hS ls (lv_sub hl [2, 6] rfl)
