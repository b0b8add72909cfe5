theorem dL_law_1067 : decode bL_law 1067 = .ok (.iconst 0, 1) := by decide +kernel
theorem dL_law_1068 : decode bL_law 1068 = .ok (.ireturn, 1) := by decide +kernel
theorem dL_law_1050 : decode bL_law 1050 = .ok (.iconst 0, 1) := by decide +kernel
theorem dL_law_1051 : decode bL_law 1051 = .ok (.ireturn, 1) := by decide +kernel
theorem dL_law_1072 : decode bL_law 1072 = .ok (.aload_n 1, 1) := by decide +kernel
theorem dL_law_1073 : decode bL_law 1073 = .ok (.aload_n 0, 1) := by decide +kernel
theorem dL_law_1074 : decode bL_law 1074 = .ok (.iload 5, 2) := by decide +kernel
theorem dL_law_1076 : decode bL_law 1076 = .ok (.iconst 1, 1) := by decide +kernel
theorem dL_law_1077 : decode bL_law 1077 = .ok (.iadd, 1) := by decide +kernel
theorem dL_law_1078 : decode bL_law 1078 = .ok (.iaload, 1) := by decide +kernel
theorem dL_law_1079 : decode bL_law 1079 = .ok (.aload_n 3, 1) := by decide +kernel
theorem dL_law_1080 : decode bL_law 1080 = .ok (.invokestatic 171, 3) := by decide +kernel
theorem dL_law_1083 : decode bL_law 1083 = .ok (.istore 6, 2) := by decide +kernel
theorem dL_law_1085 : decode bL_law 1085 = .ok (.aload_n 2, 1) := by decide +kernel
theorem dL_law_1086 : decode bL_law 1086 = .ok (.aload_n 0, 1) := by decide +kernel
theorem dL_law_1087 : decode bL_law 1087 = .ok (.iload 5, 2) := by decide +kernel
theorem dL_law_1089 : decode bL_law 1089 = .ok (.iconst 1, 1) := by decide +kernel
theorem dL_law_1090 : decode bL_law 1090 = .ok (.iadd, 1) := by decide +kernel
theorem dL_law_1091 : decode bL_law 1091 = .ok (.iaload, 1) := by decide +kernel
theorem dL_law_1092 : decode bL_law 1092 = .ok (.invokevirtual 173, 3) := by decide +kernel
theorem dL_law_1095 : decode bL_law 1095 = .ok (.istore 7, 2) := by decide +kernel
theorem dL_law_1097 : decode bL_law 1097 = .ok (.aload_n 2, 1) := by decide +kernel
theorem dL_law_1098 : decode bL_law 1098 = .ok (.invokevirtual 117, 3) := by decide +kernel
theorem dL_law_1101 : decode bL_law 1101 = .ok (.iload 6, 2) := by decide +kernel
theorem dL_law_1103 : decode bL_law 1103 = .ok (.if_icmp .eq 5, 3) := by decide +kernel
theorem dL_law_1108 : decode bL_law 1108 = .ok (.iload 6, 2) := by decide +kernel
theorem dL_law_1110 : decode bL_law 1110 = .ok (.ifCond .ne 15, 3) := by decide +kernel
theorem dL_law_1125 : decode bL_law 1125 = .ok (.goto 933, 3) := by decide +kernel
theorem dL_law_1113 : decode bL_law 1113 = .ok (.aload_n 3, 1) := by decide +kernel
theorem dL_law_1114 : decode bL_law 1114 = .ok (.iconst 0, 1) := by decide +kernel
theorem dL_law_1115 : decode bL_law 1115 = .ok (.laload, 1) := by decide +kernel
theorem dL_law_1116 : decode bL_law 1116 = .ok (.iload 7, 2) := by decide +kernel
theorem dL_law_1118 : decode bL_law 1118 = .ok (.i2l, 1) := by decide +kernel
theorem dL_law_1119 : decode bL_law 1119 = .ok (.lcmp, 1) := by decide +kernel
theorem dL_law_1120 : decode bL_law 1120 = .ok (.ifCond .eq 5, 3) := by decide +kernel
theorem dL_law_1123 : decode bL_law 1123 = .ok (.iconst 0, 1) := by decide +kernel
theorem dL_law_1124 : decode bL_law 1124 = .ok (.ireturn, 1) := by decide +kernel
theorem dL_law_1106 : decode bL_law 1106 = .ok (.iconst 0, 1) := by decide +kernel
theorem dL_law_1107 : decode bL_law 1107 = .ok (.ireturn, 1) := by decide +kernel
theorem dL_law_1128 : decode bL_law 1128 = .ok (.aload_n 1, 1) := by decide +kernel
theorem dL_law_1129 : decode bL_law 1129 = .ok (.aload_n 0, 1) := by decide +kernel
theorem dL_law_1130 : decode bL_law 1130 = .ok (.iload 5, 2) := by decide +kernel
theorem dL_law_1132 : decode bL_law 1132 = .ok (.iconst 1, 1) := by decide +kernel
theorem dL_law_1133 : decode bL_law 1133 = .ok (.iadd, 1) := by decide +kernel
theorem dL_law_1134 : decode bL_law 1134 = .ok (.iaload, 1) := by decide +kernel
theorem dL_law_1135 : decode bL_law 1135 = .ok (.aload_n 3, 1) := by decide +kernel
theorem dL_law_1136 : decode bL_law 1136 = .ok (.invokestatic 174, 3) := by decide +kernel
theorem dL_law_1139 : decode bL_law 1139 = .ok (.istore 6, 2) := by decide +kernel
theorem dL_law_1141 : decode bL_law 1141 = .ok (.aload_n 2, 1) := by decide +kernel
theorem dL_law_1142 : decode bL_law 1142 = .ok (.aload_n 0, 1) := by decide +kernel
theorem dL_law_1143 : decode bL_law 1143 = .ok (.iload 5, 2) := by decide +kernel
theorem dL_law_1145 : decode bL_law 1145 = .ok (.iconst 1, 1) := by decide +kernel
theorem dL_law_1146 : decode bL_law 1146 = .ok (.iadd, 1) := by decide +kernel
theorem dL_law_1147 : decode bL_law 1147 = .ok (.iaload, 1) := by decide +kernel
theorem dL_law_1148 : decode bL_law 1148 = .ok (.invokevirtual 176, 3) := by decide +kernel
theorem dL_law_1151 : decode bL_law 1151 = .ok (.istore 7, 2) := by decide +kernel
theorem dL_law_1153 : decode bL_law 1153 = .ok (.aload_n 2, 1) := by decide +kernel
theorem dL_law_1154 : decode bL_law 1154 = .ok (.invokevirtual 117, 3) := by decide +kernel
theorem dL_law_1157 : decode bL_law 1157 = .ok (.iload 6, 2) := by decide +kernel
theorem dL_law_1159 : decode bL_law 1159 = .ok (.if_icmp .eq 5, 3) := by decide +kernel
theorem dL_law_1164 : decode bL_law 1164 = .ok (.iload 6, 2) := by decide +kernel
theorem dL_law_1166 : decode bL_law 1166 = .ok (.ifCond .ne 15, 3) := by decide +kernel
theorem dL_law_1181 : decode bL_law 1181 = .ok (.goto 877, 3) := by decide +kernel
theorem dL_law_1169 : decode bL_law 1169 = .ok (.aload_n 3, 1) := by decide +kernel
theorem dL_law_1170 : decode bL_law 1170 = .ok (.iconst 0, 1) := by decide +kernel
theorem dL_law_1171 : decode bL_law 1171 = .ok (.laload, 1) := by decide +kernel
theorem dL_law_1172 : decode bL_law 1172 = .ok (.iload 7, 2) := by decide +kernel
theorem dL_law_1174 : decode bL_law 1174 = .ok (.i2l, 1) := by decide +kernel
theorem dL_law_1175 : decode bL_law 1175 = .ok (.lcmp, 1) := by decide +kernel
theorem dL_law_1176 : decode bL_law 1176 = .ok (.ifCond .eq 5, 3) := by decide +kernel
theorem dL_law_1179 : decode bL_law 1179 = .ok (.iconst 0, 1) := by decide +kernel
theorem dL_law_1180 : decode bL_law 1180 = .ok (.ireturn, 1) := by decide +kernel
theorem dL_law_1162 : decode bL_law 1162 = .ok (.iconst 0, 1) := by decide +kernel
theorem dL_law_1163 : decode bL_law 1163 = .ok (.ireturn, 1) := by decide +kernel
theorem dL_law_1184 : decode bL_law 1184 = .ok (.aload_n 1, 1) := by decide +kernel
theorem dL_law_1185 : decode bL_law 1185 = .ok (.aload_n 3, 1) := by decide +kernel
theorem dL_law_1186 : decode bL_law 1186 = .ok (.invokestatic 177, 3) := by decide +kernel
theorem dL_law_1189 : decode bL_law 1189 = .ok (.istore 6, 2) := by decide +kernel
theorem dL_law_1191 : decode bL_law 1191 = .ok (.aload_n 2, 1) := by decide +kernel
theorem dL_law_1192 : decode bL_law 1192 = .ok (.invokevirtual 180, 3) := by decide +kernel
theorem dL_law_1195 : decode bL_law 1195 = .ok (.istore 7, 2) := by decide +kernel
theorem dL_law_1197 : decode bL_law 1197 = .ok (.aload_n 2, 1) := by decide +kernel
theorem dL_law_1198 : decode bL_law 1198 = .ok (.invokevirtual 117, 3) := by decide +kernel
theorem dL_law_1201 : decode bL_law 1201 = .ok (.iload 6, 2) := by decide +kernel
theorem dL_law_1203 : decode bL_law 1203 = .ok (.if_icmp .eq 5, 3) := by decide +kernel
theorem dL_law_1208 : decode bL_law 1208 = .ok (.iload 6, 2) := by decide +kernel
theorem dL_law_1210 : decode bL_law 1210 = .ok (.ifCond .ne 15, 3) := by decide +kernel
theorem dL_law_1225 : decode bL_law 1225 = .ok (.goto 833, 3) := by decide +kernel
theorem dL_law_1213 : decode bL_law 1213 = .ok (.aload_n 3, 1) := by decide +kernel
theorem dL_law_1214 : decode bL_law 1214 = .ok (.iconst 0, 1) := by decide +kernel
theorem dL_law_1215 : decode bL_law 1215 = .ok (.laload, 1) := by decide +kernel
theorem dL_law_1216 : decode bL_law 1216 = .ok (.iload 7, 2) := by decide +kernel
theorem dL_law_1218 : decode bL_law 1218 = .ok (.i2l, 1) := by decide +kernel
theorem dL_law_1219 : decode bL_law 1219 = .ok (.lcmp, 1) := by decide +kernel
theorem dL_law_1220 : decode bL_law 1220 = .ok (.ifCond .eq 5, 3) := by decide +kernel
theorem dL_law_1223 : decode bL_law 1223 = .ok (.iconst 0, 1) := by decide +kernel
theorem dL_law_1224 : decode bL_law 1224 = .ok (.ireturn, 1) := by decide +kernel
theorem dL_law_1206 : decode bL_law 1206 = .ok (.iconst 0, 1) := by decide +kernel
theorem dL_law_1207 : decode bL_law 1207 = .ok (.ireturn, 1) := by decide +kernel
theorem dL_law_1228 : decode bL_law 1228 = .ok (.aload_n 1, 1) := by decide +kernel
theorem dL_law_1229 : decode bL_law 1229 = .ok (.aload_n 3, 1) := by decide +kernel
theorem dL_law_1230 : decode bL_law 1230 = .ok (.invokestatic 181, 3) := by decide +kernel
theorem dL_law_1233 : decode bL_law 1233 = .ok (.istore 6, 2) := by decide +kernel
theorem dL_law_1235 : decode bL_law 1235 = .ok (.aload_n 2, 1) := by decide +kernel
theorem dL_law_1236 : decode bL_law 1236 = .ok (.invokevirtual 183, 3) := by decide +kernel
theorem dL_law_1239 : decode bL_law 1239 = .ok (.istore 7, 2) := by decide +kernel
theorem dL_law_1241 : decode bL_law 1241 = .ok (.aload_n 2, 1) := by decide +kernel
theorem dL_law_1242 : decode bL_law 1242 = .ok (.invokevirtual 117, 3) := by decide +kernel
theorem dL_law_1245 : decode bL_law 1245 = .ok (.iload 6, 2) := by decide +kernel
theorem dL_law_1247 : decode bL_law 1247 = .ok (.if_icmp .eq 5, 3) := by decide +kernel
theorem dL_law_1252 : decode bL_law 1252 = .ok (.iload 6, 2) := by decide +kernel
theorem dL_law_1254 : decode bL_law 1254 = .ok (.ifCond .ne 15, 3) := by decide +kernel
theorem dL_law_1269 : decode bL_law 1269 = .ok (.goto 789, 3) := by decide +kernel
theorem dL_law_1257 : decode bL_law 1257 = .ok (.aload_n 3, 1) := by decide +kernel
theorem dL_law_1258 : decode bL_law 1258 = .ok (.iconst 0, 1) := by decide +kernel
theorem dL_law_1259 : decode bL_law 1259 = .ok (.laload, 1) := by decide +kernel
theorem dL_law_1260 : decode bL_law 1260 = .ok (.iload 7, 2) := by decide +kernel
theorem dL_law_1262 : decode bL_law 1262 = .ok (.i2l, 1) := by decide +kernel
theorem dL_law_1263 : decode bL_law 1263 = .ok (.lcmp, 1) := by decide +kernel
theorem dL_law_1264 : decode bL_law 1264 = .ok (.ifCond .eq 5, 3) := by decide +kernel
theorem dL_law_1267 : decode bL_law 1267 = .ok (.iconst 0, 1) := by decide +kernel
theorem dL_law_1268 : decode bL_law 1268 = .ok (.ireturn, 1) := by decide +kernel
theorem dL_law_1250 : decode bL_law 1250 = .ok (.iconst 0, 1) := by decide +kernel
theorem dL_law_1251 : decode bL_law 1251 = .ok (.ireturn, 1) := by decide +kernel
theorem dL_law_1272 : decode bL_law 1272 = .ok (.aload_n 1, 1) := by decide +kernel
theorem dL_law_1273 : decode bL_law 1273 = .ok (.aload_n 3, 1) := by decide +kernel
theorem dL_law_1274 : decode bL_law 1274 = .ok (.invokestatic 184, 3) := by decide +kernel
theorem dL_law_1277 : decode bL_law 1277 = .ok (.istore 6, 2) := by decide +kernel
theorem dL_law_1279 : decode bL_law 1279 = .ok (.aload_n 2, 1) := by decide +kernel
theorem dL_law_1280 : decode bL_law 1280 = .ok (.invokevirtual 186, 3) := by decide +kernel
theorem dL_law_1283 : decode bL_law 1283 = .ok (.istore 7, 2) := by decide +kernel
theorem dL_law_1285 : decode bL_law 1285 = .ok (.aload_n 2, 1) := by decide +kernel
theorem dL_law_1286 : decode bL_law 1286 = .ok (.invokevirtual 117, 3) := by decide +kernel
theorem dL_law_1289 : decode bL_law 1289 = .ok (.iload 6, 2) := by decide +kernel
theorem dL_law_1291 : decode bL_law 1291 = .ok (.if_icmp .eq 5, 3) := by decide +kernel
theorem dL_law_1296 : decode bL_law 1296 = .ok (.iload 6, 2) := by decide +kernel
theorem dL_law_1298 : decode bL_law 1298 = .ok (.ifCond .ne 15, 3) := by decide +kernel
theorem dL_law_1313 : decode bL_law 1313 = .ok (.goto 745, 3) := by decide +kernel
theorem dL_law_1301 : decode bL_law 1301 = .ok (.aload_n 3, 1) := by decide +kernel
theorem dL_law_1302 : decode bL_law 1302 = .ok (.iconst 0, 1) := by decide +kernel
theorem dL_law_1303 : decode bL_law 1303 = .ok (.laload, 1) := by decide +kernel
theorem dL_law_1304 : decode bL_law 1304 = .ok (.iload 7, 2) := by decide +kernel
theorem dL_law_1306 : decode bL_law 1306 = .ok (.i2l, 1) := by decide +kernel
theorem dL_law_1307 : decode bL_law 1307 = .ok (.lcmp, 1) := by decide +kernel
theorem dL_law_1308 : decode bL_law 1308 = .ok (.ifCond .eq 5, 3) := by decide +kernel
theorem dL_law_1311 : decode bL_law 1311 = .ok (.iconst 0, 1) := by decide +kernel
theorem dL_law_1312 : decode bL_law 1312 = .ok (.ireturn, 1) := by decide +kernel
theorem dL_law_1294 : decode bL_law 1294 = .ok (.iconst 0, 1) := by decide +kernel
theorem dL_law_1295 : decode bL_law 1295 = .ok (.ireturn, 1) := by decide +kernel
theorem dL_law_1316 : decode bL_law 1316 = .ok (.aload_n 1, 1) := by decide +kernel
theorem dL_law_1317 : decode bL_law 1317 = .ok (.aload 4, 2) := by decide +kernel
theorem dL_law_1319 : decode bL_law 1319 = .ok (.invokestatic 187, 3) := by decide +kernel
theorem dL_law_1322 : decode bL_law 1322 = .ok (.istore 6, 2) := by decide +kernel
theorem dL_law_1324 : decode bL_law 1324 = .ok (.aload_n 2, 1) := by decide +kernel
theorem dL_law_1325 : decode bL_law 1325 = .ok (.invokevirtual 190, 3) := by decide +kernel
theorem dL_law_1328 : decode bL_law 1328 = .ok (.fstore 7, 2) := by decide +kernel
theorem dL_law_1330 : decode bL_law 1330 = .ok (.aload_n 2, 1) := by decide +kernel
theorem dL_law_1331 : decode bL_law 1331 = .ok (.invokevirtual 117, 3) := by decide +kernel
theorem dL_law_1334 : decode bL_law 1334 = .ok (.iload 6, 2) := by decide +kernel
theorem dL_law_1336 : decode bL_law 1336 = .ok (.if_icmp .eq 5, 3) := by decide +kernel
theorem dL_law_1341 : decode bL_law 1341 = .ok (.iload 6, 2) := by decide +kernel
theorem dL_law_1343 : decode bL_law 1343 = .ok (.ifCond .ne 36, 3) := by decide +kernel
theorem dL_law_1379 : decode bL_law 1379 = .ok (.goto 679, 3) := by decide +kernel
theorem dL_law_1346 : decode bL_law 1346 = .ok (.aload 4, 2) := by decide +kernel
theorem dL_law_1348 : decode bL_law 1348 = .ok (.iconst 0, 1) := by decide +kernel
theorem dL_law_1349 : decode bL_law 1349 = .ok (.daload, 1) := by decide +kernel
theorem dL_law_1350 : decode bL_law 1350 = .ok (.fload 7, 2) := by decide +kernel
theorem dL_law_1352 : decode bL_law 1352 = .ok (.f2d, 1) := by decide +kernel
theorem dL_law_1353 : decode bL_law 1353 = .ok (.dcmp .l, 1) := by decide +kernel
theorem dL_law_1354 : decode bL_law 1354 = .ok (.ifCond .eq 25, 3) := by decide +kernel
theorem dL_law_1339 : decode bL_law 1339 = .ok (.iconst 0, 1) := by decide +kernel
theorem dL_law_1340 : decode bL_law 1340 = .ok (.ireturn, 1) := by decide +kernel
theorem dL_law_1382 : decode bL_law 1382 = .ok (.aload_n 1, 1) := by decide +kernel
theorem dL_law_1383 : decode bL_law 1383 = .ok (.aload 4, 2) := by decide +kernel
theorem dL_law_1385 : decode bL_law 1385 = .ok (.invokestatic 191, 3) := by decide +kernel
theorem dL_law_1388 : decode bL_law 1388 = .ok (.istore 6, 2) := by decide +kernel
theorem dL_law_1390 : decode bL_law 1390 = .ok (.aload_n 2, 1) := by decide +kernel
theorem dL_law_1391 : decode bL_law 1391 = .ok (.invokevirtual 193, 3) := by decide +kernel
theorem dL_law_1394 : decode bL_law 1394 = .ok (.dstore 7, 2) := by decide +kernel
theorem dL_law_1396 : decode bL_law 1396 = .ok (.aload_n 2, 1) := by decide +kernel
theorem dL_law_1397 : decode bL_law 1397 = .ok (.invokevirtual 117, 3) := by decide +kernel
theorem dL_law_1400 : decode bL_law 1400 = .ok (.iload 6, 2) := by decide +kernel
theorem dL_law_1402 : decode bL_law 1402 = .ok (.if_icmp .eq 5, 3) := by decide +kernel
theorem dL_law_1407 : decode bL_law 1407 = .ok (.iload 6, 2) := by decide +kernel
theorem dL_law_1409 : decode bL_law 1409 = .ok (.ifCond .ne 35, 3) := by decide +kernel
theorem dL_law_1444 : decode bL_law 1444 = .ok (.goto 614, 3) := by decide +kernel
theorem dL_law_1412 : decode bL_law 1412 = .ok (.aload 4, 2) := by decide +kernel
theorem dL_law_1414 : decode bL_law 1414 = .ok (.iconst 0, 1) := by decide +kernel
theorem dL_law_1415 : decode bL_law 1415 = .ok (.daload, 1) := by decide +kernel
theorem dL_law_1416 : decode bL_law 1416 = .ok (.dload 7, 2) := by decide +kernel
theorem dL_law_1418 : decode bL_law 1418 = .ok (.dcmp .l, 1) := by decide +kernel
theorem dL_law_1419 : decode bL_law 1419 = .ok (.ifCond .eq 25, 3) := by decide +kernel
theorem dL_law_1405 : decode bL_law 1405 = .ok (.iconst 0, 1) := by decide +kernel
theorem dL_law_1406 : decode bL_law 1406 = .ok (.ireturn, 1) := by decide +kernel
theorem dL_law_1447 : decode bL_law 1447 = .ok (.aload_n 1, 1) := by decide +kernel
theorem dL_law_1448 : decode bL_law 1448 = .ok (.aload_n 0, 1) := by decide +kernel
theorem dL_law_1449 : decode bL_law 1449 = .ok (.iload 5, 2) := by decide +kernel
theorem dL_law_1451 : decode bL_law 1451 = .ok (.iconst 1, 1) := by decide +kernel
theorem dL_law_1452 : decode bL_law 1452 = .ok (.iadd, 1) := by decide +kernel
theorem dL_law_1453 : decode bL_law 1453 = .ok (.iaload, 1) := by decide +kernel
theorem dL_law_1454 : decode bL_law 1454 = .ok (.aload_n 3, 1) := by decide +kernel
theorem dL_law_1455 : decode bL_law 1455 = .ok (.invokestatic 194, 3) := by decide +kernel
theorem dL_law_1458 : decode bL_law 1458 = .ok (.istore 6, 2) := by decide +kernel
theorem dL_law_1460 : decode bL_law 1460 = .ok (.aload_n 2, 1) := by decide +kernel
theorem dL_law_1461 : decode bL_law 1461 = .ok (.aload_n 0, 1) := by decide +kernel
theorem dL_law_1462 : decode bL_law 1462 = .ok (.iload 5, 2) := by decide +kernel
theorem dL_law_1464 : decode bL_law 1464 = .ok (.iconst 1, 1) := by decide +kernel
theorem dL_law_1465 : decode bL_law 1465 = .ok (.iadd, 1) := by decide +kernel
theorem dL_law_1466 : decode bL_law 1466 = .ok (.iaload, 1) := by decide +kernel
theorem dL_law_1467 : decode bL_law 1467 = .ok (.invokevirtual 196, 3) := by decide +kernel
theorem dL_law_1470 : decode bL_law 1470 = .ok (.istore 7, 2) := by decide +kernel
theorem dL_law_1472 : decode bL_law 1472 = .ok (.aload_n 2, 1) := by decide +kernel
theorem dL_law_1473 : decode bL_law 1473 = .ok (.invokevirtual 117, 3) := by decide +kernel
theorem dL_law_1476 : decode bL_law 1476 = .ok (.iload 6, 2) := by decide +kernel
theorem dL_law_1478 : decode bL_law 1478 = .ok (.if_icmp .eq 5, 3) := by decide +kernel
theorem dL_law_1483 : decode bL_law 1483 = .ok (.iload 6, 2) := by decide +kernel
theorem dL_law_1485 : decode bL_law 1485 = .ok (.ifCond .ne 15, 3) := by decide +kernel
theorem dL_law_1500 : decode bL_law 1500 = .ok (.goto 558, 3) := by decide +kernel
theorem dL_law_1488 : decode bL_law 1488 = .ok (.aload_n 3, 1) := by decide +kernel
theorem dL_law_1489 : decode bL_law 1489 = .ok (.iconst 0, 1) := by decide +kernel
theorem dL_law_1490 : decode bL_law 1490 = .ok (.laload, 1) := by decide +kernel
theorem dL_law_1491 : decode bL_law 1491 = .ok (.iload 7, 2) := by decide +kernel
theorem dL_law_1493 : decode bL_law 1493 = .ok (.i2l, 1) := by decide +kernel
theorem dL_law_1494 : decode bL_law 1494 = .ok (.lcmp, 1) := by decide +kernel
theorem dL_law_1495 : decode bL_law 1495 = .ok (.ifCond .eq 5, 3) := by decide +kernel
theorem dL_law_1498 : decode bL_law 1498 = .ok (.iconst 0, 1) := by decide +kernel
theorem dL_law_1499 : decode bL_law 1499 = .ok (.ireturn, 1) := by decide +kernel
theorem dL_law_1481 : decode bL_law 1481 = .ok (.iconst 0, 1) := by decide +kernel
theorem dL_law_1482 : decode bL_law 1482 = .ok (.ireturn, 1) := by decide +kernel
theorem dL_law_1503 : decode bL_law 1503 = .ok (.aload_n 1, 1) := by decide +kernel
theorem dL_law_1504 : decode bL_law 1504 = .ok (.aload_n 0, 1) := by decide +kernel
theorem dL_law_1505 : decode bL_law 1505 = .ok (.iload 5, 2) := by decide +kernel
theorem dL_law_1507 : decode bL_law 1507 = .ok (.iconst 1, 1) := by decide +kernel
theorem dL_law_1508 : decode bL_law 1508 = .ok (.iadd, 1) := by decide +kernel
theorem dL_law_1509 : decode bL_law 1509 = .ok (.iaload, 1) := by decide +kernel
theorem dL_law_1510 : decode bL_law 1510 = .ok (.aload_n 3, 1) := by decide +kernel
theorem dL_law_1511 : decode bL_law 1511 = .ok (.invokestatic 197, 3) := by decide +kernel
theorem dL_law_1514 : decode bL_law 1514 = .ok (.istore 6, 2) := by decide +kernel
theorem dL_law_1516 : decode bL_law 1516 = .ok (.aload_n 2, 1) := by decide +kernel
theorem dL_law_1517 : decode bL_law 1517 = .ok (.aload_n 0, 1) := by decide +kernel
theorem dL_law_1518 : decode bL_law 1518 = .ok (.iload 5, 2) := by decide +kernel
theorem dL_law_1520 : decode bL_law 1520 = .ok (.iconst 1, 1) := by decide +kernel
theorem dL_law_1521 : decode bL_law 1521 = .ok (.iadd, 1) := by decide +kernel
theorem dL_law_1522 : decode bL_law 1522 = .ok (.iaload, 1) := by decide +kernel
theorem dL_law_1523 : decode bL_law 1523 = .ok (.invokevirtual 199, 3) := by decide +kernel
theorem dL_law_1526 : decode bL_law 1526 = .ok (.istore 7, 2) := by decide +kernel
theorem dL_law_1528 : decode bL_law 1528 = .ok (.aload_n 2, 1) := by decide +kernel
theorem dL_law_1529 : decode bL_law 1529 = .ok (.invokevirtual 117, 3) := by decide +kernel
theorem dL_law_1532 : decode bL_law 1532 = .ok (.iload 6, 2) := by decide +kernel
theorem dL_law_1534 : decode bL_law 1534 = .ok (.if_icmp .eq 5, 3) := by decide +kernel
theorem dL_law_1539 : decode bL_law 1539 = .ok (.iload 6, 2) := by decide +kernel
theorem dL_law_1541 : decode bL_law 1541 = .ok (.ifCond .ne 15, 3) := by decide +kernel
theorem dL_law_1556 : decode bL_law 1556 = .ok (.goto 502, 3) := by decide +kernel
theorem dL_law_1544 : decode bL_law 1544 = .ok (.aload_n 3, 1) := by decide +kernel
theorem dL_law_1545 : decode bL_law 1545 = .ok (.iconst 0, 1) := by decide +kernel
theorem dL_law_1546 : decode bL_law 1546 = .ok (.laload, 1) := by decide +kernel
theorem dL_law_1547 : decode bL_law 1547 = .ok (.iload 7, 2) := by decide +kernel
theorem dL_law_1549 : decode bL_law 1549 = .ok (.i2l, 1) := by decide +kernel
theorem dL_law_1550 : decode bL_law 1550 = .ok (.lcmp, 1) := by decide +kernel
theorem dL_law_1551 : decode bL_law 1551 = .ok (.ifCond .eq 5, 3) := by decide +kernel
theorem dL_law_1554 : decode bL_law 1554 = .ok (.iconst 0, 1) := by decide +kernel
theorem dL_law_1555 : decode bL_law 1555 = .ok (.ireturn, 1) := by decide +kernel
theorem dL_law_1537 : decode bL_law 1537 = .ok (.iconst 0, 1) := by decide +kernel
theorem dL_law_1538 : decode bL_law 1538 = .ok (.ireturn, 1) := by decide +kernel
theorem dL_law_1559 : decode bL_law 1559 = .ok (.aload_n 1, 1) := by decide +kernel
theorem dL_law_1560 : decode bL_law 1560 = .ok (.aload_n 0, 1) := by decide +kernel
theorem dL_law_1561 : decode bL_law 1561 = .ok (.iload 5, 2) := by decide +kernel
theorem dL_law_1563 : decode bL_law 1563 = .ok (.iconst 1, 1) := by decide +kernel
theorem dL_law_1564 : decode bL_law 1564 = .ok (.iadd, 1) := by decide +kernel
theorem dL_law_1565 : decode bL_law 1565 = .ok (.iaload, 1) := by decide +kernel
theorem dL_law_1566 : decode bL_law 1566 = .ok (.aload_n 3, 1) := by decide +kernel
theorem dL_law_1567 : decode bL_law 1567 = .ok (.invokestatic 200, 3) := by decide +kernel
theorem dL_law_1570 : decode bL_law 1570 = .ok (.istore 6, 2) := by decide +kernel
theorem dL_law_1572 : decode bL_law 1572 = .ok (.aload_n 2, 1) := by decide +kernel
theorem dL_law_1573 : decode bL_law 1573 = .ok (.aload_n 0, 1) := by decide +kernel
theorem dL_law_1574 : decode bL_law 1574 = .ok (.iload 5, 2) := by decide +kernel
theorem dL_law_1576 : decode bL_law 1576 = .ok (.iconst 1, 1) := by decide +kernel
theorem dL_law_1577 : decode bL_law 1577 = .ok (.iadd, 1) := by decide +kernel
theorem dL_law_1578 : decode bL_law 1578 = .ok (.iaload, 1) := by decide +kernel
theorem dL_law_1579 : decode bL_law 1579 = .ok (.invokevirtual 202, 3) := by decide +kernel
theorem dL_law_1582 : decode bL_law 1582 = .ok (.istore 7, 2) := by decide +kernel
theorem dL_law_1584 : decode bL_law 1584 = .ok (.aload_n 2, 1) := by decide +kernel
theorem dL_law_1585 : decode bL_law 1585 = .ok (.invokevirtual 117, 3) := by decide +kernel
theorem dL_law_1588 : decode bL_law 1588 = .ok (.iload 6, 2) := by decide +kernel
theorem dL_law_1590 : decode bL_law 1590 = .ok (.if_icmp .eq 5, 3) := by decide +kernel
theorem dL_law_1595 : decode bL_law 1595 = .ok (.iload 6, 2) := by decide +kernel
theorem dL_law_1597 : decode bL_law 1597 = .ok (.ifCond .ne 15, 3) := by decide +kernel
theorem dL_law_1612 : decode bL_law 1612 = .ok (.goto 446, 3) := by decide +kernel
theorem dL_law_1600 : decode bL_law 1600 = .ok (.aload_n 3, 1) := by decide +kernel
theorem dL_law_1601 : decode bL_law 1601 = .ok (.iconst 0, 1) := by decide +kernel
theorem dL_law_1602 : decode bL_law 1602 = .ok (.laload, 1) := by decide +kernel
theorem dL_law_1603 : decode bL_law 1603 = .ok (.iload 7, 2) := by decide +kernel
theorem dL_law_1605 : decode bL_law 1605 = .ok (.i2l, 1) := by decide +kernel
theorem dL_law_1606 : decode bL_law 1606 = .ok (.lcmp, 1) := by decide +kernel
theorem dL_law_1607 : decode bL_law 1607 = .ok (.ifCond .eq 5, 3) := by decide +kernel
theorem dL_law_1610 : decode bL_law 1610 = .ok (.iconst 0, 1) := by decide +kernel
theorem dL_law_1611 : decode bL_law 1611 = .ok (.ireturn, 1) := by decide +kernel
theorem dL_law_1593 : decode bL_law 1593 = .ok (.iconst 0, 1) := by decide +kernel
theorem dL_law_1594 : decode bL_law 1594 = .ok (.ireturn, 1) := by decide +kernel
theorem dL_law_1615 : decode bL_law 1615 = .ok (.aload_n 1, 1) := by decide +kernel
theorem dL_law_1616 : decode bL_law 1616 = .ok (.aload_n 0, 1) := by decide +kernel
theorem dL_law_1617 : decode bL_law 1617 = .ok (.iload 5, 2) := by decide +kernel
theorem dL_law_1619 : decode bL_law 1619 = .ok (.iconst 1, 1) := by decide +kernel
theorem dL_law_1620 : decode bL_law 1620 = .ok (.iadd, 1) := by decide +kernel
theorem dL_law_1621 : decode bL_law 1621 = .ok (.iaload, 1) := by decide +kernel
theorem dL_law_1622 : decode bL_law 1622 = .ok (.aload_n 3, 1) := by decide +kernel
theorem dL_law_1623 : decode bL_law 1623 = .ok (.invokestatic 203, 3) := by decide +kernel
theorem dL_law_1626 : decode bL_law 1626 = .ok (.istore 6, 2) := by decide +kernel
theorem dL_law_1628 : decode bL_law 1628 = .ok (.aload_n 2, 1) := by decide +kernel
theorem dL_law_1629 : decode bL_law 1629 = .ok (.aload_n 0, 1) := by decide +kernel
theorem dL_law_1630 : decode bL_law 1630 = .ok (.iload 5, 2) := by decide +kernel
theorem dL_law_1632 : decode bL_law 1632 = .ok (.iconst 1, 1) := by decide +kernel
theorem dL_law_1633 : decode bL_law 1633 = .ok (.iadd, 1) := by decide +kernel
theorem dL_law_1634 : decode bL_law 1634 = .ok (.iaload, 1) := by decide +kernel
theorem dL_law_1635 : decode bL_law 1635 = .ok (.invokevirtual 205, 3) := by decide +kernel
theorem dL_law_1638 : decode bL_law 1638 = .ok (.istore 7, 2) := by decide +kernel
theorem dL_law_1640 : decode bL_law 1640 = .ok (.aload_n 2, 1) := by decide +kernel
theorem dL_law_1641 : decode bL_law 1641 = .ok (.invokevirtual 117, 3) := by decide +kernel
theorem dL_law_1644 : decode bL_law 1644 = .ok (.iload 6, 2) := by decide +kernel
theorem dL_law_1646 : decode bL_law 1646 = .ok (.if_icmp .eq 5, 3) := by decide +kernel
theorem dL_law_1651 : decode bL_law 1651 = .ok (.iload 6, 2) := by decide +kernel
theorem dL_law_1653 : decode bL_law 1653 = .ok (.ifCond .ne 15, 3) := by decide +kernel
theorem dL_law_1668 : decode bL_law 1668 = .ok (.goto 390, 3) := by decide +kernel
theorem dL_law_1656 : decode bL_law 1656 = .ok (.aload_n 3, 1) := by decide +kernel
theorem dL_law_1657 : decode bL_law 1657 = .ok (.iconst 0, 1) := by decide +kernel
theorem dL_law_1658 : decode bL_law 1658 = .ok (.laload, 1) := by decide +kernel
theorem dL_law_1659 : decode bL_law 1659 = .ok (.iload 7, 2) := by decide +kernel
theorem dL_law_1661 : decode bL_law 1661 = .ok (.i2l, 1) := by decide +kernel
theorem dL_law_1662 : decode bL_law 1662 = .ok (.lcmp, 1) := by decide +kernel
theorem dL_law_1663 : decode bL_law 1663 = .ok (.ifCond .eq 5, 3) := by decide +kernel
theorem dL_law_1666 : decode bL_law 1666 = .ok (.iconst 0, 1) := by decide +kernel
theorem dL_law_1667 : decode bL_law 1667 = .ok (.ireturn, 1) := by decide +kernel
theorem dL_law_1649 : decode bL_law 1649 = .ok (.iconst 0, 1) := by decide +kernel
theorem dL_law_1650 : decode bL_law 1650 = .ok (.ireturn, 1) := by decide +kernel
theorem dL_law_1671 : decode bL_law 1671 = .ok (.aload_n 1, 1) := by decide +kernel
theorem dL_law_1672 : decode bL_law 1672 = .ok (.aload_n 0, 1) := by decide +kernel
theorem dL_law_1673 : decode bL_law 1673 = .ok (.iload 5, 2) := by decide +kernel
theorem dL_law_1675 : decode bL_law 1675 = .ok (.iconst 1, 1) := by decide +kernel
theorem dL_law_1676 : decode bL_law 1676 = .ok (.iadd, 1) := by decide +kernel
theorem dL_law_1677 : decode bL_law 1677 = .ok (.iaload, 1) := by decide +kernel
theorem dL_law_1678 : decode bL_law 1678 = .ok (.aload_n 3, 1) := by decide +kernel
theorem dL_law_1679 : decode bL_law 1679 = .ok (.invokestatic 206, 3) := by decide +kernel
theorem dL_law_1682 : decode bL_law 1682 = .ok (.istore 6, 2) := by decide +kernel
theorem dL_law_1684 : decode bL_law 1684 = .ok (.aload_n 2, 1) := by decide +kernel
theorem dL_law_1685 : decode bL_law 1685 = .ok (.aload_n 0, 1) := by decide +kernel
theorem dL_law_1686 : decode bL_law 1686 = .ok (.iload 5, 2) := by decide +kernel
theorem dL_law_1688 : decode bL_law 1688 = .ok (.iconst 1, 1) := by decide +kernel
theorem dL_law_1689 : decode bL_law 1689 = .ok (.iadd, 1) := by decide +kernel
theorem dL_law_1690 : decode bL_law 1690 = .ok (.iaload, 1) := by decide +kernel
theorem dL_law_1691 : decode bL_law 1691 = .ok (.invokevirtual 208, 3) := by decide +kernel
theorem dL_law_1694 : decode bL_law 1694 = .ok (.istore 7, 2) := by decide +kernel
theorem dL_law_1696 : decode bL_law 1696 = .ok (.aload_n 2, 1) := by decide +kernel
theorem dL_law_1697 : decode bL_law 1697 = .ok (.invokevirtual 117, 3) := by decide +kernel
theorem dL_law_1700 : decode bL_law 1700 = .ok (.iload 6, 2) := by decide +kernel
theorem dL_law_1702 : decode bL_law 1702 = .ok (.if_icmp .eq 5, 3) := by decide +kernel
theorem dL_law_1707 : decode bL_law 1707 = .ok (.iload 6, 2) := by decide +kernel
theorem dL_law_1709 : decode bL_law 1709 = .ok (.ifCond .ne 15, 3) := by decide +kernel
theorem dL_law_1724 : decode bL_law 1724 = .ok (.goto 334, 3) := by decide +kernel
theorem dL_law_1712 : decode bL_law 1712 = .ok (.aload_n 3, 1) := by decide +kernel
theorem dL_law_1713 : decode bL_law 1713 = .ok (.iconst 0, 1) := by decide +kernel
theorem dL_law_1714 : decode bL_law 1714 = .ok (.laload, 1) := by decide +kernel
theorem dL_law_1715 : decode bL_law 1715 = .ok (.iload 7, 2) := by decide +kernel
theorem dL_law_1717 : decode bL_law 1717 = .ok (.i2l, 1) := by decide +kernel
theorem dL_law_1718 : decode bL_law 1718 = .ok (.lcmp, 1) := by decide +kernel
theorem dL_law_1719 : decode bL_law 1719 = .ok (.ifCond .eq 5, 3) := by decide +kernel
theorem dL_law_1722 : decode bL_law 1722 = .ok (.iconst 0, 1) := by decide +kernel
theorem dL_law_1723 : decode bL_law 1723 = .ok (.ireturn, 1) := by decide +kernel
theorem dL_law_1705 : decode bL_law 1705 = .ok (.iconst 0, 1) := by decide +kernel
theorem dL_law_1706 : decode bL_law 1706 = .ok (.ireturn, 1) := by decide +kernel
theorem dL_law_1727 : decode bL_law 1727 = .ok (.aload_n 1, 1) := by decide +kernel
theorem dL_law_1728 : decode bL_law 1728 = .ok (.invokevirtual 209, 3) := by decide +kernel
theorem dL_law_1731 : decode bL_law 1731 = .ok (.aload_n 2, 1) := by decide +kernel
theorem dL_law_1732 : decode bL_law 1732 = .ok (.invokevirtual 212, 3) := by decide +kernel
theorem dL_law_1735 : decode bL_law 1735 = .ok (.if_icmp .eq 323, 3) := by decide +kernel
theorem dL_law_1738 : decode bL_law 1738 = .ok (.iconst 0, 1) := by decide +kernel
theorem dL_law_1739 : decode bL_law 1739 = .ok (.ireturn, 1) := by decide +kernel
theorem dL_law_1740 : decode bL_law 1740 = .ok (.aload_n 1, 1) := by decide +kernel
theorem dL_law_1741 : decode bL_law 1741 = .ok (.invokevirtual 213, 3) := by decide +kernel
theorem dL_law_1744 : decode bL_law 1744 = .ok (.aload_n 2, 1) := by decide +kernel
theorem dL_law_1745 : decode bL_law 1745 = .ok (.invokevirtual 216, 3) := by decide +kernel
theorem dL_law_1748 : decode bL_law 1748 = .ok (.if_icmp .eq 310, 3) := by decide +kernel
theorem dL_law_1751 : decode bL_law 1751 = .ok (.iconst 0, 1) := by decide +kernel
theorem dL_law_1752 : decode bL_law 1752 = .ok (.ireturn, 1) := by decide +kernel
theorem dL_law_1753 : decode bL_law 1753 = .ok (.aload_n 1, 1) := by decide +kernel
theorem dL_law_1754 : decode bL_law 1754 = .ok (.invokevirtual 217, 3) := by decide +kernel
theorem dL_law_1757 : decode bL_law 1757 = .ok (.aload_n 2, 1) := by decide +kernel
theorem dL_law_1758 : decode bL_law 1758 = .ok (.invokevirtual 220, 3) := by decide +kernel
theorem dL_law_1761 : decode bL_law 1761 = .ok (.if_icmp .eq 297, 3) := by decide +kernel
theorem dL_law_1764 : decode bL_law 1764 = .ok (.iconst 0, 1) := by decide +kernel
theorem dL_law_1765 : decode bL_law 1765 = .ok (.ireturn, 1) := by decide +kernel
theorem dL_law_1766 : decode bL_law 1766 = .ok (.aload_n 1, 1) := by decide +kernel
theorem dL_law_1767 : decode bL_law 1767 = .ok (.invokevirtual 221, 3) := by decide +kernel
theorem dL_law_1770 : decode bL_law 1770 = .ok (.aload_n 2, 1) := by decide +kernel
theorem dL_law_1771 : decode bL_law 1771 = .ok (.invokevirtual 224, 3) := by decide +kernel
theorem dL_law_1774 : decode bL_law 1774 = .ok (.if_icmp .eq 284, 3) := by decide +kernel
theorem dL_law_1777 : decode bL_law 1777 = .ok (.iconst 0, 1) := by decide +kernel
theorem dL_law_1778 : decode bL_law 1778 = .ok (.ireturn, 1) := by decide +kernel
theorem dL_law_1779 : decode bL_law 1779 = .ok (.aload_n 1, 1) := by decide +kernel
theorem dL_law_1780 : decode bL_law 1780 = .ok (.aload_n 0, 1) := by decide +kernel
theorem dL_law_1781 : decode bL_law 1781 = .ok (.iload 5, 2) := by decide +kernel
theorem dL_law_1783 : decode bL_law 1783 = .ok (.iconst 1, 1) := by decide +kernel
theorem dL_law_1784 : decode bL_law 1784 = .ok (.iadd, 1) := by decide +kernel
theorem dL_law_1785 : decode bL_law 1785 = .ok (.iaload, 1) := by decide +kernel
theorem dL_law_1786 : decode bL_law 1786 = .ok (.aload_n 3, 1) := by decide +kernel
theorem dL_law_1787 : decode bL_law 1787 = .ok (.invokestatic 225, 3) := by decide +kernel
theorem dL_law_1790 : decode bL_law 1790 = .ok (.istore 6, 2) := by decide +kernel
theorem dL_law_1792 : decode bL_law 1792 = .ok (.aload_n 2, 1) := by decide +kernel
theorem dL_law_1793 : decode bL_law 1793 = .ok (.aload_n 0, 1) := by decide +kernel
theorem dL_law_1794 : decode bL_law 1794 = .ok (.iload 5, 2) := by decide +kernel
theorem dL_law_1796 : decode bL_law 1796 = .ok (.iconst 1, 1) := by decide +kernel
theorem dL_law_1797 : decode bL_law 1797 = .ok (.iadd, 1) := by decide +kernel
theorem dL_law_1798 : decode bL_law 1798 = .ok (.iaload, 1) := by decide +kernel
theorem dL_law_1799 : decode bL_law 1799 = .ok (.invokevirtual 227, 3) := by decide +kernel
theorem dL_law_1802 : decode bL_law 1802 = .ok (.istore 7, 2) := by decide +kernel
theorem dL_law_1804 : decode bL_law 1804 = .ok (.aload_n 2, 1) := by decide +kernel
theorem dL_law_1805 : decode bL_law 1805 = .ok (.invokevirtual 117, 3) := by decide +kernel
theorem dL_law_1808 : decode bL_law 1808 = .ok (.iload 6, 2) := by decide +kernel
theorem dL_law_1810 : decode bL_law 1810 = .ok (.if_icmp .eq 5, 3) := by decide +kernel
theorem dL_law_1815 : decode bL_law 1815 = .ok (.iload 6, 2) := by decide +kernel
theorem dL_law_1817 : decode bL_law 1817 = .ok (.ifCond .ne 15, 3) := by decide +kernel
theorem dL_law_1832 : decode bL_law 1832 = .ok (.goto 226, 3) := by decide +kernel
theorem dL_law_1820 : decode bL_law 1820 = .ok (.aload_n 3, 1) := by decide +kernel
theorem dL_law_1821 : decode bL_law 1821 = .ok (.iconst 0, 1) := by decide +kernel
theorem dL_law_1822 : decode bL_law 1822 = .ok (.laload, 1) := by decide +kernel
theorem dL_law_1823 : decode bL_law 1823 = .ok (.iload 7, 2) := by decide +kernel
theorem dL_law_1825 : decode bL_law 1825 = .ok (.i2l, 1) := by decide +kernel
theorem dL_law_1826 : decode bL_law 1826 = .ok (.lcmp, 1) := by decide +kernel
theorem dL_law_1827 : decode bL_law 1827 = .ok (.ifCond .eq 5, 3) := by decide +kernel
theorem dL_law_1830 : decode bL_law 1830 = .ok (.iconst 0, 1) := by decide +kernel
theorem dL_law_1831 : decode bL_law 1831 = .ok (.ireturn, 1) := by decide +kernel
theorem dL_law_1813 : decode bL_law 1813 = .ok (.iconst 0, 1) := by decide +kernel
theorem dL_law_1814 : decode bL_law 1814 = .ok (.ireturn, 1) := by decide +kernel
theorem dL_law_1835 : decode bL_law 1835 = .ok (.aload_n 1, 1) := by decide +kernel
theorem dL_law_1836 : decode bL_law 1836 = .ok (.invokevirtual 228, 3) := by decide +kernel
theorem dL_law_1839 : decode bL_law 1839 = .ok (.aload_n 2, 1) := by decide +kernel
theorem dL_law_1840 : decode bL_law 1840 = .ok (.invokevirtual 231, 3) := by decide +kernel
theorem dL_law_1843 : decode bL_law 1843 = .ok (.if_icmp .eq 215, 3) := by decide +kernel
theorem dL_law_1846 : decode bL_law 1846 = .ok (.iconst 0, 1) := by decide +kernel
theorem dL_law_1847 : decode bL_law 1847 = .ok (.ireturn, 1) := by decide +kernel
theorem dL_law_1848 : decode bL_law 1848 = .ok (.aload_n 1, 1) := by decide +kernel
theorem dL_law_1849 : decode bL_law 1849 = .ok (.invokevirtual 232, 3) := by decide +kernel
theorem dL_law_1852 : decode bL_law 1852 = .ok (.aload_n 2, 1) := by decide +kernel
theorem dL_law_1853 : decode bL_law 1853 = .ok (.invokevirtual 235, 3) := by decide +kernel
theorem dL_law_1856 : decode bL_law 1856 = .ok (.if_icmp .eq 202, 3) := by decide +kernel
theorem dL_law_1859 : decode bL_law 1859 = .ok (.iconst 0, 1) := by decide +kernel
theorem dL_law_1860 : decode bL_law 1860 = .ok (.ireturn, 1) := by decide +kernel
theorem dL_law_1861 : decode bL_law 1861 = .ok (.aload_n 1, 1) := by decide +kernel
theorem dL_law_1862 : decode bL_law 1862 = .ok (.aload_n 0, 1) := by decide +kernel
theorem dL_law_1863 : decode bL_law 1863 = .ok (.iload 5, 2) := by decide +kernel
theorem dL_law_1865 : decode bL_law 1865 = .ok (.iconst 1, 1) := by decide +kernel
theorem dL_law_1866 : decode bL_law 1866 = .ok (.iadd, 1) := by decide +kernel
theorem dL_law_1867 : decode bL_law 1867 = .ok (.iaload, 1) := by decide +kernel
theorem dL_law_1868 : decode bL_law 1868 = .ok (.ifCond .eq 7, 3) := by decide +kernel
theorem dL_law_1875 : decode bL_law 1875 = .ok (.iconst 0, 1) := by decide +kernel
theorem dL_law_1871 : decode bL_law 1871 = .ok (.iconst 1, 1) := by decide +kernel
theorem dL_law_1872 : decode bL_law 1872 = .ok (.goto 4, 3) := by decide +kernel
theorem dL_law_1902 : decode bL_law 1902 = .ok (.aload_n 1, 1) := by decide +kernel
theorem dL_law_1903 : decode bL_law 1903 = .ok (.aload_n 3, 1) := by decide +kernel
theorem dL_law_1904 : decode bL_law 1904 = .ok (.invokestatic 241, 3) := by decide +kernel
theorem dL_law_1907 : decode bL_law 1907 = .ok (.istore 6, 2) := by decide +kernel
theorem dL_law_1909 : decode bL_law 1909 = .ok (.aload_n 2, 1) := by decide +kernel
theorem dL_law_1910 : decode bL_law 1910 = .ok (.invokevirtual 243, 3) := by decide +kernel
theorem dL_law_1913 : decode bL_law 1913 = .ok (.istore 7, 2) := by decide +kernel
theorem dL_law_1915 : decode bL_law 1915 = .ok (.aload_n 2, 1) := by decide +kernel
theorem dL_law_1916 : decode bL_law 1916 = .ok (.invokevirtual 117, 3) := by decide +kernel
theorem dL_law_1919 : decode bL_law 1919 = .ok (.iload 6, 2) := by decide +kernel
theorem dL_law_1921 : decode bL_law 1921 = .ok (.if_icmp .eq 5, 3) := by decide +kernel
theorem dL_law_1926 : decode bL_law 1926 = .ok (.iload 6, 2) := by decide +kernel
theorem dL_law_1928 : decode bL_law 1928 = .ok (.ifCond .ne 15, 3) := by decide +kernel
theorem dL_law_1943 : decode bL_law 1943 = .ok (.goto 115, 3) := by decide +kernel
theorem dL_law_1931 : decode bL_law 1931 = .ok (.aload_n 3, 1) := by decide +kernel
theorem dL_law_1932 : decode bL_law 1932 = .ok (.iconst 0, 1) := by decide +kernel
theorem dL_law_1933 : decode bL_law 1933 = .ok (.laload, 1) := by decide +kernel
theorem dL_law_1934 : decode bL_law 1934 = .ok (.iload 7, 2) := by decide +kernel
theorem dL_law_1936 : decode bL_law 1936 = .ok (.i2l, 1) := by decide +kernel
theorem dL_law_1937 : decode bL_law 1937 = .ok (.lcmp, 1) := by decide +kernel
theorem dL_law_1938 : decode bL_law 1938 = .ok (.ifCond .eq 5, 3) := by decide +kernel
theorem dL_law_1941 : decode bL_law 1941 = .ok (.iconst 0, 1) := by decide +kernel
theorem dL_law_1942 : decode bL_law 1942 = .ok (.ireturn, 1) := by decide +kernel
theorem dL_law_1924 : decode bL_law 1924 = .ok (.iconst 0, 1) := by decide +kernel
theorem dL_law_1925 : decode bL_law 1925 = .ok (.ireturn, 1) := by decide +kernel
theorem dL_law_1946 : decode bL_law 1946 = .ok (.aload_n 1, 1) := by decide +kernel
theorem dL_law_1947 : decode bL_law 1947 = .ok (.aload_n 0, 1) := by decide +kernel
theorem dL_law_1948 : decode bL_law 1948 = .ok (.iload 5, 2) := by decide +kernel
theorem dL_law_1950 : decode bL_law 1950 = .ok (.iconst 1, 1) := by decide +kernel
theorem dL_law_1951 : decode bL_law 1951 = .ok (.iadd, 1) := by decide +kernel
theorem dL_law_1952 : decode bL_law 1952 = .ok (.iaload, 1) := by decide +kernel
theorem dL_law_1953 : decode bL_law 1953 = .ok (.aload_n 3, 1) := by decide +kernel
theorem dL_law_1954 : decode bL_law 1954 = .ok (.invokestatic 244, 3) := by decide +kernel
theorem dL_law_1957 : decode bL_law 1957 = .ok (.istore 6, 2) := by decide +kernel
theorem dL_law_1959 : decode bL_law 1959 = .ok (.aload_n 2, 1) := by decide +kernel
theorem dL_law_1960 : decode bL_law 1960 = .ok (.aload_n 0, 1) := by decide +kernel
theorem dL_law_1961 : decode bL_law 1961 = .ok (.iload 5, 2) := by decide +kernel
theorem dL_law_1963 : decode bL_law 1963 = .ok (.iconst 1, 1) := by decide +kernel
theorem dL_law_1964 : decode bL_law 1964 = .ok (.iadd, 1) := by decide +kernel
theorem dL_law_1965 : decode bL_law 1965 = .ok (.iaload, 1) := by decide +kernel
theorem dL_law_1966 : decode bL_law 1966 = .ok (.invokevirtual 246, 3) := by decide +kernel
theorem dL_law_1969 : decode bL_law 1969 = .ok (.istore 7, 2) := by decide +kernel
theorem dL_law_1971 : decode bL_law 1971 = .ok (.aload_n 2, 1) := by decide +kernel
theorem dL_law_1972 : decode bL_law 1972 = .ok (.invokevirtual 117, 3) := by decide +kernel
theorem dL_law_1975 : decode bL_law 1975 = .ok (.iload 6, 2) := by decide +kernel
theorem dL_law_1977 : decode bL_law 1977 = .ok (.if_icmp .eq 5, 3) := by decide +kernel
theorem dL_law_1982 : decode bL_law 1982 = .ok (.iload 6, 2) := by decide +kernel
theorem dL_law_1984 : decode bL_law 1984 = .ok (.ifCond .ne 15, 3) := by decide +kernel
theorem dL_law_1999 : decode bL_law 1999 = .ok (.goto 59, 3) := by decide +kernel
theorem dL_law_1987 : decode bL_law 1987 = .ok (.aload_n 3, 1) := by decide +kernel
theorem dL_law_1988 : decode bL_law 1988 = .ok (.iconst 0, 1) := by decide +kernel
theorem dL_law_1989 : decode bL_law 1989 = .ok (.laload, 1) := by decide +kernel
theorem dL_law_1990 : decode bL_law 1990 = .ok (.iload 7, 2) := by decide +kernel
theorem dL_law_1992 : decode bL_law 1992 = .ok (.i2l, 1) := by decide +kernel
theorem dL_law_1993 : decode bL_law 1993 = .ok (.lcmp, 1) := by decide +kernel
theorem dL_law_1994 : decode bL_law 1994 = .ok (.ifCond .eq 5, 3) := by decide +kernel
theorem dL_law_1997 : decode bL_law 1997 = .ok (.iconst 0, 1) := by decide +kernel
theorem dL_law_1998 : decode bL_law 1998 = .ok (.ireturn, 1) := by decide +kernel
theorem dL_law_1980 : decode bL_law 1980 = .ok (.iconst 0, 1) := by decide +kernel
theorem dL_law_1981 : decode bL_law 1981 = .ok (.ireturn, 1) := by decide +kernel
theorem dL_law_2002 : decode bL_law 2002 = .ok (.aload_n 1, 1) := by decide +kernel
theorem dL_law_2003 : decode bL_law 2003 = .ok (.aload_n 0, 1) := by decide +kernel
theorem dL_law_2004 : decode bL_law 2004 = .ok (.iload 5, 2) := by decide +kernel
theorem dL_law_2006 : decode bL_law 2006 = .ok (.iconst 1, 1) := by decide +kernel
theorem dL_law_2007 : decode bL_law 2007 = .ok (.iadd, 1) := by decide +kernel
theorem dL_law_2008 : decode bL_law 2008 = .ok (.iaload, 1) := by decide +kernel
theorem dL_law_2009 : decode bL_law 2009 = .ok (.aload_n 3, 1) := by decide +kernel
theorem dL_law_2010 : decode bL_law 2010 = .ok (.invokestatic 247, 3) := by decide +kernel
theorem dL_law_2013 : decode bL_law 2013 = .ok (.istore 6, 2) := by decide +kernel
theorem dL_law_2015 : decode bL_law 2015 = .ok (.aload_n 2, 1) := by decide +kernel
theorem dL_law_2016 : decode bL_law 2016 = .ok (.aload_n 0, 1) := by decide +kernel
theorem dL_law_2017 : decode bL_law 2017 = .ok (.iload 5, 2) := by decide +kernel
theorem dL_law_2019 : decode bL_law 2019 = .ok (.iconst 1, 1) := by decide +kernel
theorem dL_law_2020 : decode bL_law 2020 = .ok (.iadd, 1) := by decide +kernel
theorem dL_law_2021 : decode bL_law 2021 = .ok (.iaload, 1) := by decide +kernel
theorem dL_law_2022 : decode bL_law 2022 = .ok (.invokevirtual 249, 3) := by decide +kernel
theorem dL_law_2025 : decode bL_law 2025 = .ok (.istore 7, 2) := by decide +kernel
theorem dL_law_2027 : decode bL_law 2027 = .ok (.aload_n 2, 1) := by decide +kernel
theorem dL_law_2028 : decode bL_law 2028 = .ok (.invokevirtual 117, 3) := by decide +kernel
theorem dL_law_2031 : decode bL_law 2031 = .ok (.iload 6, 2) := by decide +kernel
theorem dL_law_2033 : decode bL_law 2033 = .ok (.if_icmp .eq 5, 3) := by decide +kernel
theorem dL_law_2038 : decode bL_law 2038 = .ok (.iload 6, 2) := by decide +kernel
theorem dL_law_2040 : decode bL_law 2040 = .ok (.ifCond .ne 15, 3) := by decide +kernel
theorem dL_law_2055 : decode bL_law 2055 = .ok (.goto 3, 3) := by decide +kernel
theorem dL_law_2043 : decode bL_law 2043 = .ok (.aload_n 3, 1) := by decide +kernel
theorem dL_law_2044 : decode bL_law 2044 = .ok (.iconst 0, 1) := by decide +kernel
theorem dL_law_2045 : decode bL_law 2045 = .ok (.laload, 1) := by decide +kernel
theorem dL_law_2046 : decode bL_law 2046 = .ok (.iload 7, 2) := by decide +kernel
theorem dL_law_2048 : decode bL_law 2048 = .ok (.i2l, 1) := by decide +kernel
theorem dL_law_2049 : decode bL_law 2049 = .ok (.lcmp, 1) := by decide +kernel
theorem dL_law_2050 : decode bL_law 2050 = .ok (.ifCond .eq 5, 3) := by decide +kernel
theorem dL_law_2053 : decode bL_law 2053 = .ok (.iconst 0, 1) := by decide +kernel
theorem dL_law_2054 : decode bL_law 2054 = .ok (.ireturn, 1) := by decide +kernel
theorem dL_law_2036 : decode bL_law 2036 = .ok (.iconst 0, 1) := by decide +kernel
theorem dL_law_2037 : decode bL_law 2037 = .ok (.ireturn, 1) := by decide +kernel
theorem dL_law_2058 : decode bL_law 2058 = .ok (.iinc 5 6, 3) := by decide +kernel
theorem dL_law_2061 : decode bL_law 2061 = .ok (.goto (-2033), 3) := by decide +kernel
theorem dL_law_1876 : decode bL_law 1876 = .ok (.invokevirtual 236, 3) := by decide +kernel
theorem dL_law_1879 : decode bL_law 1879 = .ok (.aload_n 2, 1) := by decide +kernel
theorem dL_law_1880 : decode bL_law 1880 = .ok (.aload_n 0, 1) := by decide +kernel
theorem dL_law_1881 : decode bL_law 1881 = .ok (.iload 5, 2) := by decide +kernel
theorem dL_law_1883 : decode bL_law 1883 = .ok (.iconst 1, 1) := by decide +kernel
theorem dL_law_1884 : decode bL_law 1884 = .ok (.iadd, 1) := by decide +kernel
theorem dL_law_1885 : decode bL_law 1885 = .ok (.iaload, 1) := by decide +kernel
theorem dL_law_1886 : decode bL_law 1886 = .ok (.ifCond .eq 7, 3) := by decide +kernel
theorem dL_law_1893 : decode bL_law 1893 = .ok (.iconst 0, 1) := by decide +kernel
theorem dL_law_1889 : decode bL_law 1889 = .ok (.iconst 1, 1) := by decide +kernel
theorem dL_law_1890 : decode bL_law 1890 = .ok (.goto 4, 3) := by decide +kernel
theorem dL_law_1894 : decode bL_law 1894 = .ok (.invokevirtual 240, 3) := by decide +kernel
theorem dL_law_1897 : decode bL_law 1897 = .ok (.if_icmp .eq 161, 3) := by decide +kernel
theorem dL_law_1900 : decode bL_law 1900 = .ok (.iconst 0, 1) := by decide +kernel
theorem dL_law_1901 : decode bL_law 1901 = .ok (.ireturn, 1) := by decide +kernel
