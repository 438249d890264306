/-! The law's own instructions. -/
theorem d_law_1085 : decode code 1085 = .ok (.iconst 0, 1) := by decide +kernel
theorem d_law_1086 : decode code 1086 = .ok (.ireturn, 1) := by decide +kernel
theorem d_law_1087 : decode code 1087 = .ok (.goto 1663, 3) := by decide +kernel
theorem d_law_1090 : decode code 1090 = .ok (.aload_n 1, 1) := by decide +kernel
theorem d_law_1091 : decode code 1091 = .ok (.aload_n 0, 1) := by decide +kernel
theorem d_law_1092 : decode code 1092 = .ok (.iload 4, 2) := by decide +kernel
theorem d_law_1094 : decode code 1094 = .ok (.iconst 1, 1) := by decide +kernel
theorem d_law_1095 : decode code 1095 = .ok (.iadd, 1) := by decide +kernel
theorem d_law_1096 : decode code 1096 = .ok (.iaload, 1) := by decide +kernel
theorem d_law_1097 : decode code 1097 = .ok (.aload_n 3, 1) := by decide +kernel
theorem d_law_1098 : decode code 1098 = .ok (.invokestatic 214, 3) := by decide +kernel
theorem d_law_1101 : decode code 1101 = .ok (.istore 5, 2) := by decide +kernel
theorem d_law_1103 : decode code 1103 = .ok (.aload_n 2, 1) := by decide +kernel
theorem d_law_1104 : decode code 1104 = .ok (.aload_n 0, 1) := by decide +kernel
theorem d_law_1105 : decode code 1105 = .ok (.iload 4, 2) := by decide +kernel
theorem d_law_1107 : decode code 1107 = .ok (.iconst 1, 1) := by decide +kernel
theorem d_law_1108 : decode code 1108 = .ok (.iadd, 1) := by decide +kernel
theorem d_law_1109 : decode code 1109 = .ok (.iaload, 1) := by decide +kernel
theorem d_law_1110 : decode code 1110 = .ok (.invokevirtual 216, 3) := by decide +kernel
theorem d_law_1113 : decode code 1113 = .ok (.istore 6, 2) := by decide +kernel
theorem d_law_1115 : decode code 1115 = .ok (.aload_n 2, 1) := by decide +kernel
theorem d_law_1116 : decode code 1116 = .ok (.invokevirtual 133, 3) := by decide +kernel
theorem d_law_1119 : decode code 1119 = .ok (.iload 5, 2) := by decide +kernel
theorem d_law_1121 : decode code 1121 = .ok (.if_icmp .eq 5, 3) := by decide +kernel
theorem d_law_1124 : decode code 1124 = .ok (.iconst 0, 1) := by decide +kernel
theorem d_law_1125 : decode code 1125 = .ok (.ireturn, 1) := by decide +kernel
theorem d_law_1126 : decode code 1126 = .ok (.iload 5, 2) := by decide +kernel
theorem d_law_1128 : decode code 1128 = .ok (.ifCond .ne 15, 3) := by decide +kernel
theorem d_law_1131 : decode code 1131 = .ok (.aload_n 3, 1) := by decide +kernel
theorem d_law_1132 : decode code 1132 = .ok (.iconst 0, 1) := by decide +kernel
theorem d_law_1133 : decode code 1133 = .ok (.laload, 1) := by decide +kernel
theorem d_law_1134 : decode code 1134 = .ok (.iload 6, 2) := by decide +kernel
theorem d_law_1136 : decode code 1136 = .ok (.i2l, 1) := by decide +kernel
theorem d_law_1137 : decode code 1137 = .ok (.lcmp, 1) := by decide +kernel
theorem d_law_1138 : decode code 1138 = .ok (.ifCond .eq 5, 3) := by decide +kernel
theorem d_law_1141 : decode code 1141 = .ok (.iconst 0, 1) := by decide +kernel
theorem d_law_1142 : decode code 1142 = .ok (.ireturn, 1) := by decide +kernel
theorem d_law_1143 : decode code 1143 = .ok (.goto 1607, 3) := by decide +kernel
theorem d_law_1146 : decode code 1146 = .ok (.aload_n 1, 1) := by decide +kernel
theorem d_law_1147 : decode code 1147 = .ok (.aload_n 0, 1) := by decide +kernel
theorem d_law_1148 : decode code 1148 = .ok (.iload 4, 2) := by decide +kernel
theorem d_law_1150 : decode code 1150 = .ok (.iconst 1, 1) := by decide +kernel
theorem d_law_1151 : decode code 1151 = .ok (.iadd, 1) := by decide +kernel
theorem d_law_1152 : decode code 1152 = .ok (.iaload, 1) := by decide +kernel
theorem d_law_1153 : decode code 1153 = .ok (.aload_n 3, 1) := by decide +kernel
theorem d_law_1154 : decode code 1154 = .ok (.invokestatic 217, 3) := by decide +kernel
theorem d_law_1157 : decode code 1157 = .ok (.istore 5, 2) := by decide +kernel
theorem d_law_1159 : decode code 1159 = .ok (.aload_n 2, 1) := by decide +kernel
theorem d_law_1160 : decode code 1160 = .ok (.aload_n 0, 1) := by decide +kernel
theorem d_law_1161 : decode code 1161 = .ok (.iload 4, 2) := by decide +kernel
theorem d_law_1163 : decode code 1163 = .ok (.iconst 1, 1) := by decide +kernel
theorem d_law_1164 : decode code 1164 = .ok (.iadd, 1) := by decide +kernel
theorem d_law_1165 : decode code 1165 = .ok (.iaload, 1) := by decide +kernel
theorem d_law_1166 : decode code 1166 = .ok (.invokevirtual 219, 3) := by decide +kernel
theorem d_law_1169 : decode code 1169 = .ok (.istore 6, 2) := by decide +kernel
theorem d_law_1171 : decode code 1171 = .ok (.aload_n 2, 1) := by decide +kernel
theorem d_law_1172 : decode code 1172 = .ok (.invokevirtual 133, 3) := by decide +kernel
theorem d_law_1175 : decode code 1175 = .ok (.iload 5, 2) := by decide +kernel
theorem d_law_1177 : decode code 1177 = .ok (.if_icmp .eq 5, 3) := by decide +kernel
theorem d_law_1180 : decode code 1180 = .ok (.iconst 0, 1) := by decide +kernel
theorem d_law_1181 : decode code 1181 = .ok (.ireturn, 1) := by decide +kernel
theorem d_law_1182 : decode code 1182 = .ok (.iload 5, 2) := by decide +kernel
theorem d_law_1184 : decode code 1184 = .ok (.ifCond .ne 15, 3) := by decide +kernel
theorem d_law_1187 : decode code 1187 = .ok (.aload_n 3, 1) := by decide +kernel
theorem d_law_1188 : decode code 1188 = .ok (.iconst 0, 1) := by decide +kernel
theorem d_law_1189 : decode code 1189 = .ok (.laload, 1) := by decide +kernel
theorem d_law_1190 : decode code 1190 = .ok (.iload 6, 2) := by decide +kernel
theorem d_law_1192 : decode code 1192 = .ok (.i2l, 1) := by decide +kernel
theorem d_law_1193 : decode code 1193 = .ok (.lcmp, 1) := by decide +kernel
theorem d_law_1194 : decode code 1194 = .ok (.ifCond .eq 5, 3) := by decide +kernel
theorem d_law_1197 : decode code 1197 = .ok (.iconst 0, 1) := by decide +kernel
theorem d_law_1198 : decode code 1198 = .ok (.ireturn, 1) := by decide +kernel
theorem d_law_1199 : decode code 1199 = .ok (.goto 1551, 3) := by decide +kernel
theorem d_law_1202 : decode code 1202 = .ok (.aload_n 1, 1) := by decide +kernel
theorem d_law_1203 : decode code 1203 = .ok (.aload_n 0, 1) := by decide +kernel
theorem d_law_1204 : decode code 1204 = .ok (.iload 4, 2) := by decide +kernel
theorem d_law_1206 : decode code 1206 = .ok (.iconst 1, 1) := by decide +kernel
theorem d_law_1207 : decode code 1207 = .ok (.iadd, 1) := by decide +kernel
theorem d_law_1208 : decode code 1208 = .ok (.iaload, 1) := by decide +kernel
theorem d_law_1209 : decode code 1209 = .ok (.aload_n 3, 1) := by decide +kernel
theorem d_law_1210 : decode code 1210 = .ok (.invokestatic 220, 3) := by decide +kernel
theorem d_law_1213 : decode code 1213 = .ok (.istore 5, 2) := by decide +kernel
theorem d_law_1215 : decode code 1215 = .ok (.aload_n 2, 1) := by decide +kernel
theorem d_law_1216 : decode code 1216 = .ok (.aload_n 0, 1) := by decide +kernel
theorem d_law_1217 : decode code 1217 = .ok (.iload 4, 2) := by decide +kernel
theorem d_law_1219 : decode code 1219 = .ok (.iconst 1, 1) := by decide +kernel
theorem d_law_1220 : decode code 1220 = .ok (.iadd, 1) := by decide +kernel
theorem d_law_1221 : decode code 1221 = .ok (.iaload, 1) := by decide +kernel
theorem d_law_1222 : decode code 1222 = .ok (.invokevirtual 222, 3) := by decide +kernel
theorem d_law_1225 : decode code 1225 = .ok (.istore 6, 2) := by decide +kernel
theorem d_law_1227 : decode code 1227 = .ok (.aload_n 2, 1) := by decide +kernel
theorem d_law_1228 : decode code 1228 = .ok (.invokevirtual 133, 3) := by decide +kernel
theorem d_law_1231 : decode code 1231 = .ok (.iload 5, 2) := by decide +kernel
theorem d_law_1233 : decode code 1233 = .ok (.if_icmp .eq 5, 3) := by decide +kernel
theorem d_law_1236 : decode code 1236 = .ok (.iconst 0, 1) := by decide +kernel
theorem d_law_1237 : decode code 1237 = .ok (.ireturn, 1) := by decide +kernel
theorem d_law_1238 : decode code 1238 = .ok (.iload 5, 2) := by decide +kernel
theorem d_law_1240 : decode code 1240 = .ok (.ifCond .ne 15, 3) := by decide +kernel
theorem d_law_1243 : decode code 1243 = .ok (.aload_n 3, 1) := by decide +kernel
theorem d_law_1244 : decode code 1244 = .ok (.iconst 0, 1) := by decide +kernel
theorem d_law_1245 : decode code 1245 = .ok (.laload, 1) := by decide +kernel
theorem d_law_1246 : decode code 1246 = .ok (.iload 6, 2) := by decide +kernel
theorem d_law_1248 : decode code 1248 = .ok (.i2l, 1) := by decide +kernel
theorem d_law_1249 : decode code 1249 = .ok (.lcmp, 1) := by decide +kernel
theorem d_law_1250 : decode code 1250 = .ok (.ifCond .eq 5, 3) := by decide +kernel
theorem d_law_1253 : decode code 1253 = .ok (.iconst 0, 1) := by decide +kernel
theorem d_law_1254 : decode code 1254 = .ok (.ireturn, 1) := by decide +kernel
theorem d_law_1255 : decode code 1255 = .ok (.goto 1495, 3) := by decide +kernel
theorem d_law_1258 : decode code 1258 = .ok (.aload_n 1, 1) := by decide +kernel
theorem d_law_1259 : decode code 1259 = .ok (.aload_n 0, 1) := by decide +kernel
theorem d_law_1260 : decode code 1260 = .ok (.iload 4, 2) := by decide +kernel
theorem d_law_1262 : decode code 1262 = .ok (.iconst 1, 1) := by decide +kernel
theorem d_law_1263 : decode code 1263 = .ok (.iadd, 1) := by decide +kernel
theorem d_law_1264 : decode code 1264 = .ok (.iaload, 1) := by decide +kernel
theorem d_law_1265 : decode code 1265 = .ok (.aload_n 3, 1) := by decide +kernel
theorem d_law_1266 : decode code 1266 = .ok (.invokestatic 223, 3) := by decide +kernel
theorem d_law_1269 : decode code 1269 = .ok (.istore 5, 2) := by decide +kernel
theorem d_law_1271 : decode code 1271 = .ok (.aload_n 2, 1) := by decide +kernel
theorem d_law_1272 : decode code 1272 = .ok (.aload_n 0, 1) := by decide +kernel
theorem d_law_1273 : decode code 1273 = .ok (.iload 4, 2) := by decide +kernel
theorem d_law_1275 : decode code 1275 = .ok (.iconst 1, 1) := by decide +kernel
theorem d_law_1276 : decode code 1276 = .ok (.iadd, 1) := by decide +kernel
theorem d_law_1277 : decode code 1277 = .ok (.iaload, 1) := by decide +kernel
theorem d_law_1278 : decode code 1278 = .ok (.invokevirtual 225, 3) := by decide +kernel
theorem d_law_1281 : decode code 1281 = .ok (.istore 6, 2) := by decide +kernel
theorem d_law_1283 : decode code 1283 = .ok (.aload_n 2, 1) := by decide +kernel
theorem d_law_1284 : decode code 1284 = .ok (.invokevirtual 133, 3) := by decide +kernel
theorem d_law_1287 : decode code 1287 = .ok (.iload 5, 2) := by decide +kernel
theorem d_law_1289 : decode code 1289 = .ok (.if_icmp .eq 5, 3) := by decide +kernel
theorem d_law_1292 : decode code 1292 = .ok (.iconst 0, 1) := by decide +kernel
theorem d_law_1293 : decode code 1293 = .ok (.ireturn, 1) := by decide +kernel
theorem d_law_1294 : decode code 1294 = .ok (.iload 5, 2) := by decide +kernel
theorem d_law_1296 : decode code 1296 = .ok (.ifCond .ne 15, 3) := by decide +kernel
theorem d_law_1299 : decode code 1299 = .ok (.aload_n 3, 1) := by decide +kernel
theorem d_law_1300 : decode code 1300 = .ok (.iconst 0, 1) := by decide +kernel
theorem d_law_1301 : decode code 1301 = .ok (.laload, 1) := by decide +kernel
theorem d_law_1302 : decode code 1302 = .ok (.iload 6, 2) := by decide +kernel
theorem d_law_1304 : decode code 1304 = .ok (.i2l, 1) := by decide +kernel
theorem d_law_1305 : decode code 1305 = .ok (.lcmp, 1) := by decide +kernel
theorem d_law_1306 : decode code 1306 = .ok (.ifCond .eq 5, 3) := by decide +kernel
theorem d_law_1309 : decode code 1309 = .ok (.iconst 0, 1) := by decide +kernel
theorem d_law_1310 : decode code 1310 = .ok (.ireturn, 1) := by decide +kernel
theorem d_law_1311 : decode code 1311 = .ok (.goto 1439, 3) := by decide +kernel
theorem d_law_1314 : decode code 1314 = .ok (.aload_n 1, 1) := by decide +kernel
theorem d_law_1315 : decode code 1315 = .ok (.invokevirtual 226, 3) := by decide +kernel
theorem d_law_1318 : decode code 1318 = .ok (.aload_n 2, 1) := by decide +kernel
theorem d_law_1319 : decode code 1319 = .ok (.invokevirtual 229, 3) := by decide +kernel
theorem d_law_1322 : decode code 1322 = .ok (.if_icmp .eq 1428, 3) := by decide +kernel
theorem d_law_1325 : decode code 1325 = .ok (.iconst 0, 1) := by decide +kernel
theorem d_law_1326 : decode code 1326 = .ok (.ireturn, 1) := by decide +kernel
theorem d_law_1327 : decode code 1327 = .ok (.aload_n 1, 1) := by decide +kernel
theorem d_law_1328 : decode code 1328 = .ok (.aload_n 0, 1) := by decide +kernel
theorem d_law_1329 : decode code 1329 = .ok (.iload 4, 2) := by decide +kernel
theorem d_law_1331 : decode code 1331 = .ok (.iconst 1, 1) := by decide +kernel
theorem d_law_1332 : decode code 1332 = .ok (.iadd, 1) := by decide +kernel
theorem d_law_1333 : decode code 1333 = .ok (.iaload, 1) := by decide +kernel
theorem d_law_1334 : decode code 1334 = .ok (.aload_n 3, 1) := by decide +kernel
theorem d_law_1335 : decode code 1335 = .ok (.invokestatic 230, 3) := by decide +kernel
theorem d_law_1338 : decode code 1338 = .ok (.istore 5, 2) := by decide +kernel
theorem d_law_1340 : decode code 1340 = .ok (.aload_n 2, 1) := by decide +kernel
theorem d_law_1341 : decode code 1341 = .ok (.aload_n 0, 1) := by decide +kernel
theorem d_law_1342 : decode code 1342 = .ok (.iload 4, 2) := by decide +kernel
theorem d_law_1344 : decode code 1344 = .ok (.iconst 1, 1) := by decide +kernel
theorem d_law_1345 : decode code 1345 = .ok (.iadd, 1) := by decide +kernel
theorem d_law_1346 : decode code 1346 = .ok (.iaload, 1) := by decide +kernel
theorem d_law_1347 : decode code 1347 = .ok (.invokevirtual 232, 3) := by decide +kernel
theorem d_law_1350 : decode code 1350 = .ok (.istore 6, 2) := by decide +kernel
theorem d_law_1352 : decode code 1352 = .ok (.aload_n 2, 1) := by decide +kernel
theorem d_law_1353 : decode code 1353 = .ok (.invokevirtual 133, 3) := by decide +kernel
theorem d_law_1356 : decode code 1356 = .ok (.iload 5, 2) := by decide +kernel
theorem d_law_1358 : decode code 1358 = .ok (.if_icmp .eq 5, 3) := by decide +kernel
theorem d_law_1361 : decode code 1361 = .ok (.iconst 0, 1) := by decide +kernel
theorem d_law_1362 : decode code 1362 = .ok (.ireturn, 1) := by decide +kernel
theorem d_law_1363 : decode code 1363 = .ok (.iload 5, 2) := by decide +kernel
theorem d_law_1365 : decode code 1365 = .ok (.ifCond .ne 15, 3) := by decide +kernel
theorem d_law_1368 : decode code 1368 = .ok (.aload_n 3, 1) := by decide +kernel
theorem d_law_1369 : decode code 1369 = .ok (.iconst 0, 1) := by decide +kernel
theorem d_law_1370 : decode code 1370 = .ok (.laload, 1) := by decide +kernel
theorem d_law_1371 : decode code 1371 = .ok (.iload 6, 2) := by decide +kernel
theorem d_law_1373 : decode code 1373 = .ok (.i2l, 1) := by decide +kernel
theorem d_law_1374 : decode code 1374 = .ok (.lcmp, 1) := by decide +kernel
theorem d_law_1375 : decode code 1375 = .ok (.ifCond .eq 5, 3) := by decide +kernel
theorem d_law_1378 : decode code 1378 = .ok (.iconst 0, 1) := by decide +kernel
theorem d_law_1379 : decode code 1379 = .ok (.ireturn, 1) := by decide +kernel
theorem d_law_1380 : decode code 1380 = .ok (.goto 1370, 3) := by decide +kernel
theorem d_law_1383 : decode code 1383 = .ok (.aload_n 1, 1) := by decide +kernel
theorem d_law_1384 : decode code 1384 = .ok (.aload_n 0, 1) := by decide +kernel
theorem d_law_1385 : decode code 1385 = .ok (.iload 4, 2) := by decide +kernel
theorem d_law_1387 : decode code 1387 = .ok (.iconst 1, 1) := by decide +kernel
theorem d_law_1388 : decode code 1388 = .ok (.iadd, 1) := by decide +kernel
theorem d_law_1389 : decode code 1389 = .ok (.iaload, 1) := by decide +kernel
theorem d_law_1390 : decode code 1390 = .ok (.aload_n 3, 1) := by decide +kernel
theorem d_law_1391 : decode code 1391 = .ok (.invokestatic 233, 3) := by decide +kernel
theorem d_law_1394 : decode code 1394 = .ok (.istore 5, 2) := by decide +kernel
theorem d_law_1396 : decode code 1396 = .ok (.aload_n 2, 1) := by decide +kernel
theorem d_law_1397 : decode code 1397 = .ok (.aload_n 0, 1) := by decide +kernel
theorem d_law_1398 : decode code 1398 = .ok (.iload 4, 2) := by decide +kernel
theorem d_law_1400 : decode code 1400 = .ok (.iconst 1, 1) := by decide +kernel
theorem d_law_1401 : decode code 1401 = .ok (.iadd, 1) := by decide +kernel
theorem d_law_1402 : decode code 1402 = .ok (.iaload, 1) := by decide +kernel
theorem d_law_1403 : decode code 1403 = .ok (.invokevirtual 235, 3) := by decide +kernel
theorem d_law_1406 : decode code 1406 = .ok (.istore 6, 2) := by decide +kernel
theorem d_law_1408 : decode code 1408 = .ok (.aload_n 2, 1) := by decide +kernel
theorem d_law_1409 : decode code 1409 = .ok (.invokevirtual 133, 3) := by decide +kernel
theorem d_law_1412 : decode code 1412 = .ok (.iload 5, 2) := by decide +kernel
theorem d_law_1414 : decode code 1414 = .ok (.if_icmp .eq 5, 3) := by decide +kernel
theorem d_law_1417 : decode code 1417 = .ok (.iconst 0, 1) := by decide +kernel
theorem d_law_1418 : decode code 1418 = .ok (.ireturn, 1) := by decide +kernel
theorem d_law_1419 : decode code 1419 = .ok (.iload 5, 2) := by decide +kernel
theorem d_law_1421 : decode code 1421 = .ok (.ifCond .ne 15, 3) := by decide +kernel
theorem d_law_1424 : decode code 1424 = .ok (.aload_n 3, 1) := by decide +kernel
theorem d_law_1425 : decode code 1425 = .ok (.iconst 0, 1) := by decide +kernel
theorem d_law_1426 : decode code 1426 = .ok (.laload, 1) := by decide +kernel
theorem d_law_1427 : decode code 1427 = .ok (.iload 6, 2) := by decide +kernel
theorem d_law_1429 : decode code 1429 = .ok (.i2l, 1) := by decide +kernel
theorem d_law_1430 : decode code 1430 = .ok (.lcmp, 1) := by decide +kernel
theorem d_law_1431 : decode code 1431 = .ok (.ifCond .eq 5, 3) := by decide +kernel
theorem d_law_1434 : decode code 1434 = .ok (.iconst 0, 1) := by decide +kernel
theorem d_law_1435 : decode code 1435 = .ok (.ireturn, 1) := by decide +kernel
theorem d_law_1436 : decode code 1436 = .ok (.goto 1314, 3) := by decide +kernel
theorem d_law_1439 : decode code 1439 = .ok (.aload_n 1, 1) := by decide +kernel
theorem d_law_1440 : decode code 1440 = .ok (.aload_n 0, 1) := by decide +kernel
theorem d_law_1441 : decode code 1441 = .ok (.iload 4, 2) := by decide +kernel
theorem d_law_1443 : decode code 1443 = .ok (.iconst 1, 1) := by decide +kernel
theorem d_law_1444 : decode code 1444 = .ok (.iadd, 1) := by decide +kernel
theorem d_law_1445 : decode code 1445 = .ok (.iaload, 1) := by decide +kernel
theorem d_law_1446 : decode code 1446 = .ok (.aload_n 3, 1) := by decide +kernel
theorem d_law_1447 : decode code 1447 = .ok (.invokestatic 236, 3) := by decide +kernel
theorem d_law_1450 : decode code 1450 = .ok (.istore 5, 2) := by decide +kernel
theorem d_law_1452 : decode code 1452 = .ok (.aload_n 2, 1) := by decide +kernel
theorem d_law_1453 : decode code 1453 = .ok (.aload_n 0, 1) := by decide +kernel
theorem d_law_1454 : decode code 1454 = .ok (.iload 4, 2) := by decide +kernel
theorem d_law_1456 : decode code 1456 = .ok (.iconst 1, 1) := by decide +kernel
theorem d_law_1457 : decode code 1457 = .ok (.iadd, 1) := by decide +kernel
theorem d_law_1458 : decode code 1458 = .ok (.iaload, 1) := by decide +kernel
theorem d_law_1459 : decode code 1459 = .ok (.invokevirtual 238, 3) := by decide +kernel
theorem d_law_1462 : decode code 1462 = .ok (.istore 6, 2) := by decide +kernel
theorem d_law_1464 : decode code 1464 = .ok (.aload_n 2, 1) := by decide +kernel
theorem d_law_1465 : decode code 1465 = .ok (.invokevirtual 133, 3) := by decide +kernel
theorem d_law_1468 : decode code 1468 = .ok (.iload 5, 2) := by decide +kernel
theorem d_law_1470 : decode code 1470 = .ok (.if_icmp .eq 5, 3) := by decide +kernel
theorem d_law_1473 : decode code 1473 = .ok (.iconst 0, 1) := by decide +kernel
theorem d_law_1474 : decode code 1474 = .ok (.ireturn, 1) := by decide +kernel
theorem d_law_1475 : decode code 1475 = .ok (.iload 5, 2) := by decide +kernel
theorem d_law_1477 : decode code 1477 = .ok (.ifCond .ne 15, 3) := by decide +kernel
theorem d_law_1480 : decode code 1480 = .ok (.aload_n 3, 1) := by decide +kernel
theorem d_law_1481 : decode code 1481 = .ok (.iconst 0, 1) := by decide +kernel
theorem d_law_1482 : decode code 1482 = .ok (.laload, 1) := by decide +kernel
theorem d_law_1483 : decode code 1483 = .ok (.iload 6, 2) := by decide +kernel
theorem d_law_1485 : decode code 1485 = .ok (.i2l, 1) := by decide +kernel
theorem d_law_1486 : decode code 1486 = .ok (.lcmp, 1) := by decide +kernel
theorem d_law_1487 : decode code 1487 = .ok (.ifCond .eq 5, 3) := by decide +kernel
theorem d_law_1490 : decode code 1490 = .ok (.iconst 0, 1) := by decide +kernel
theorem d_law_1491 : decode code 1491 = .ok (.ireturn, 1) := by decide +kernel
theorem d_law_1492 : decode code 1492 = .ok (.goto 1258, 3) := by decide +kernel
theorem d_law_1495 : decode code 1495 = .ok (.aload_n 1, 1) := by decide +kernel
theorem d_law_1496 : decode code 1496 = .ok (.invokevirtual 239, 3) := by decide +kernel
theorem d_law_1499 : decode code 1499 = .ok (.aload_n 2, 1) := by decide +kernel
theorem d_law_1500 : decode code 1500 = .ok (.invokevirtual 242, 3) := by decide +kernel
theorem d_law_1503 : decode code 1503 = .ok (.if_icmp .eq 1247, 3) := by decide +kernel
theorem d_law_1506 : decode code 1506 = .ok (.iconst 0, 1) := by decide +kernel
theorem d_law_1507 : decode code 1507 = .ok (.ireturn, 1) := by decide +kernel
theorem d_law_1508 : decode code 1508 = .ok (.aload_n 1, 1) := by decide +kernel
theorem d_law_1509 : decode code 1509 = .ok (.aload_n 0, 1) := by decide +kernel
theorem d_law_1510 : decode code 1510 = .ok (.iload 4, 2) := by decide +kernel
theorem d_law_1512 : decode code 1512 = .ok (.iconst 1, 1) := by decide +kernel
theorem d_law_1513 : decode code 1513 = .ok (.iadd, 1) := by decide +kernel
theorem d_law_1514 : decode code 1514 = .ok (.iaload, 1) := by decide +kernel
theorem d_law_1515 : decode code 1515 = .ok (.aload_n 3, 1) := by decide +kernel
theorem d_law_1516 : decode code 1516 = .ok (.invokestatic 243, 3) := by decide +kernel
theorem d_law_1519 : decode code 1519 = .ok (.istore 5, 2) := by decide +kernel
theorem d_law_1521 : decode code 1521 = .ok (.aload_n 2, 1) := by decide +kernel
theorem d_law_1522 : decode code 1522 = .ok (.aload_n 0, 1) := by decide +kernel
theorem d_law_1523 : decode code 1523 = .ok (.iload 4, 2) := by decide +kernel
theorem d_law_1525 : decode code 1525 = .ok (.iconst 1, 1) := by decide +kernel
theorem d_law_1526 : decode code 1526 = .ok (.iadd, 1) := by decide +kernel
theorem d_law_1527 : decode code 1527 = .ok (.iaload, 1) := by decide +kernel
theorem d_law_1528 : decode code 1528 = .ok (.invokevirtual 245, 3) := by decide +kernel
theorem d_law_1531 : decode code 1531 = .ok (.istore 6, 2) := by decide +kernel
theorem d_law_1533 : decode code 1533 = .ok (.aload_n 2, 1) := by decide +kernel
theorem d_law_1534 : decode code 1534 = .ok (.invokevirtual 133, 3) := by decide +kernel
theorem d_law_1537 : decode code 1537 = .ok (.iload 5, 2) := by decide +kernel
theorem d_law_1539 : decode code 1539 = .ok (.if_icmp .eq 5, 3) := by decide +kernel
theorem d_law_1542 : decode code 1542 = .ok (.iconst 0, 1) := by decide +kernel
theorem d_law_1543 : decode code 1543 = .ok (.ireturn, 1) := by decide +kernel
theorem d_law_1544 : decode code 1544 = .ok (.iload 5, 2) := by decide +kernel
theorem d_law_1546 : decode code 1546 = .ok (.ifCond .ne 15, 3) := by decide +kernel
theorem d_law_1549 : decode code 1549 = .ok (.aload_n 3, 1) := by decide +kernel
theorem d_law_1550 : decode code 1550 = .ok (.iconst 0, 1) := by decide +kernel
theorem d_law_1551 : decode code 1551 = .ok (.laload, 1) := by decide +kernel
theorem d_law_1552 : decode code 1552 = .ok (.iload 6, 2) := by decide +kernel
theorem d_law_1554 : decode code 1554 = .ok (.i2l, 1) := by decide +kernel
theorem d_law_1555 : decode code 1555 = .ok (.lcmp, 1) := by decide +kernel
theorem d_law_1556 : decode code 1556 = .ok (.ifCond .eq 5, 3) := by decide +kernel
theorem d_law_1559 : decode code 1559 = .ok (.iconst 0, 1) := by decide +kernel
theorem d_law_1560 : decode code 1560 = .ok (.ireturn, 1) := by decide +kernel
theorem d_law_1561 : decode code 1561 = .ok (.goto 1189, 3) := by decide +kernel
theorem d_law_1564 : decode code 1564 = .ok (.aload_n 1, 1) := by decide +kernel
theorem d_law_1565 : decode code 1565 = .ok (.aload_n 0, 1) := by decide +kernel
theorem d_law_1566 : decode code 1566 = .ok (.iload 4, 2) := by decide +kernel
theorem d_law_1568 : decode code 1568 = .ok (.iconst 1, 1) := by decide +kernel
theorem d_law_1569 : decode code 1569 = .ok (.iadd, 1) := by decide +kernel
theorem d_law_1570 : decode code 1570 = .ok (.iaload, 1) := by decide +kernel
theorem d_law_1571 : decode code 1571 = .ok (.aload_n 3, 1) := by decide +kernel
theorem d_law_1572 : decode code 1572 = .ok (.invokestatic 246, 3) := by decide +kernel
theorem d_law_1575 : decode code 1575 = .ok (.istore 5, 2) := by decide +kernel
theorem d_law_1577 : decode code 1577 = .ok (.aload_n 2, 1) := by decide +kernel
theorem d_law_1578 : decode code 1578 = .ok (.aload_n 0, 1) := by decide +kernel
theorem d_law_1579 : decode code 1579 = .ok (.iload 4, 2) := by decide +kernel
theorem d_law_1581 : decode code 1581 = .ok (.iconst 1, 1) := by decide +kernel
theorem d_law_1582 : decode code 1582 = .ok (.iadd, 1) := by decide +kernel
theorem d_law_1583 : decode code 1583 = .ok (.iaload, 1) := by decide +kernel
theorem d_law_1584 : decode code 1584 = .ok (.invokevirtual 248, 3) := by decide +kernel
theorem d_law_1587 : decode code 1587 = .ok (.istore 6, 2) := by decide +kernel
theorem d_law_1589 : decode code 1589 = .ok (.aload_n 2, 1) := by decide +kernel
theorem d_law_1590 : decode code 1590 = .ok (.invokevirtual 133, 3) := by decide +kernel
theorem d_law_1593 : decode code 1593 = .ok (.iload 5, 2) := by decide +kernel
theorem d_law_1595 : decode code 1595 = .ok (.if_icmp .eq 5, 3) := by decide +kernel
theorem d_law_1598 : decode code 1598 = .ok (.iconst 0, 1) := by decide +kernel
theorem d_law_1599 : decode code 1599 = .ok (.ireturn, 1) := by decide +kernel
theorem d_law_1600 : decode code 1600 = .ok (.iload 5, 2) := by decide +kernel
theorem d_law_1602 : decode code 1602 = .ok (.ifCond .ne 15, 3) := by decide +kernel
theorem d_law_1605 : decode code 1605 = .ok (.aload_n 3, 1) := by decide +kernel
theorem d_law_1606 : decode code 1606 = .ok (.iconst 0, 1) := by decide +kernel
theorem d_law_1607 : decode code 1607 = .ok (.laload, 1) := by decide +kernel
theorem d_law_1608 : decode code 1608 = .ok (.iload 6, 2) := by decide +kernel
theorem d_law_1610 : decode code 1610 = .ok (.i2l, 1) := by decide +kernel
theorem d_law_1611 : decode code 1611 = .ok (.lcmp, 1) := by decide +kernel
theorem d_law_1612 : decode code 1612 = .ok (.ifCond .eq 5, 3) := by decide +kernel
theorem d_law_1615 : decode code 1615 = .ok (.iconst 0, 1) := by decide +kernel
theorem d_law_1616 : decode code 1616 = .ok (.ireturn, 1) := by decide +kernel
theorem d_law_1617 : decode code 1617 = .ok (.goto 1133, 3) := by decide +kernel
theorem d_law_1620 : decode code 1620 = .ok (.aload_n 1, 1) := by decide +kernel
theorem d_law_1621 : decode code 1621 = .ok (.aload_n 0, 1) := by decide +kernel
theorem d_law_1622 : decode code 1622 = .ok (.iload 4, 2) := by decide +kernel
theorem d_law_1624 : decode code 1624 = .ok (.iconst 1, 1) := by decide +kernel
theorem d_law_1625 : decode code 1625 = .ok (.iadd, 1) := by decide +kernel
theorem d_law_1626 : decode code 1626 = .ok (.iaload, 1) := by decide +kernel
theorem d_law_1627 : decode code 1627 = .ok (.aload_n 3, 1) := by decide +kernel
theorem d_law_1628 : decode code 1628 = .ok (.invokestatic 249, 3) := by decide +kernel
theorem d_law_1631 : decode code 1631 = .ok (.istore 5, 2) := by decide +kernel
theorem d_law_1633 : decode code 1633 = .ok (.aload_n 2, 1) := by decide +kernel
theorem d_law_1634 : decode code 1634 = .ok (.aload_n 0, 1) := by decide +kernel
theorem d_law_1635 : decode code 1635 = .ok (.iload 4, 2) := by decide +kernel
theorem d_law_1637 : decode code 1637 = .ok (.iconst 1, 1) := by decide +kernel
theorem d_law_1638 : decode code 1638 = .ok (.iadd, 1) := by decide +kernel
theorem d_law_1639 : decode code 1639 = .ok (.iaload, 1) := by decide +kernel
theorem d_law_1640 : decode code 1640 = .ok (.invokevirtual 251, 3) := by decide +kernel
theorem d_law_1643 : decode code 1643 = .ok (.istore 6, 2) := by decide +kernel
theorem d_law_1645 : decode code 1645 = .ok (.aload_n 2, 1) := by decide +kernel
theorem d_law_1646 : decode code 1646 = .ok (.invokevirtual 133, 3) := by decide +kernel
theorem d_law_1649 : decode code 1649 = .ok (.iload 5, 2) := by decide +kernel
theorem d_law_1651 : decode code 1651 = .ok (.if_icmp .eq 5, 3) := by decide +kernel
theorem d_law_1654 : decode code 1654 = .ok (.iconst 0, 1) := by decide +kernel
theorem d_law_1655 : decode code 1655 = .ok (.ireturn, 1) := by decide +kernel
theorem d_law_1656 : decode code 1656 = .ok (.iload 5, 2) := by decide +kernel
theorem d_law_1658 : decode code 1658 = .ok (.ifCond .ne 15, 3) := by decide +kernel
theorem d_law_1661 : decode code 1661 = .ok (.aload_n 3, 1) := by decide +kernel
theorem d_law_1662 : decode code 1662 = .ok (.iconst 0, 1) := by decide +kernel
theorem d_law_1663 : decode code 1663 = .ok (.laload, 1) := by decide +kernel
theorem d_law_1664 : decode code 1664 = .ok (.iload 6, 2) := by decide +kernel
theorem d_law_1666 : decode code 1666 = .ok (.i2l, 1) := by decide +kernel
theorem d_law_1667 : decode code 1667 = .ok (.lcmp, 1) := by decide +kernel
theorem d_law_1668 : decode code 1668 = .ok (.ifCond .eq 5, 3) := by decide +kernel
theorem d_law_1671 : decode code 1671 = .ok (.iconst 0, 1) := by decide +kernel
theorem d_law_1672 : decode code 1672 = .ok (.ireturn, 1) := by decide +kernel
theorem d_law_1673 : decode code 1673 = .ok (.goto 1077, 3) := by decide +kernel
theorem d_law_1676 : decode code 1676 = .ok (.aload_n 1, 1) := by decide +kernel
theorem d_law_1677 : decode code 1677 = .ok (.invokevirtual 252, 3) := by decide +kernel
theorem d_law_1680 : decode code 1680 = .ok (.aload_n 2, 1) := by decide +kernel
theorem d_law_1681 : decode code 1681 = .ok (.invokevirtual 255, 3) := by decide +kernel
theorem d_law_1684 : decode code 1684 = .ok (.if_icmp .eq 1066, 3) := by decide +kernel
theorem d_law_1687 : decode code 1687 = .ok (.iconst 0, 1) := by decide +kernel
theorem d_law_1688 : decode code 1688 = .ok (.ireturn, 1) := by decide +kernel
theorem d_law_1689 : decode code 1689 = .ok (.aload_n 1, 1) := by decide +kernel
theorem d_law_1690 : decode code 1690 = .ok (.invokevirtual 256, 3) := by decide +kernel
theorem d_law_1693 : decode code 1693 = .ok (.aload_n 2, 1) := by decide +kernel
theorem d_law_1694 : decode code 1694 = .ok (.invokevirtual 259, 3) := by decide +kernel
theorem d_law_1697 : decode code 1697 = .ok (.if_icmp .eq 1053, 3) := by decide +kernel
theorem d_law_1700 : decode code 1700 = .ok (.iconst 0, 1) := by decide +kernel
theorem d_law_1701 : decode code 1701 = .ok (.ireturn, 1) := by decide +kernel
theorem d_law_1702 : decode code 1702 = .ok (.aload_n 1, 1) := by decide +kernel
theorem d_law_1703 : decode code 1703 = .ok (.invokevirtual 260, 3) := by decide +kernel
theorem d_law_1706 : decode code 1706 = .ok (.f2d, 1) := by decide +kernel
theorem d_law_1707 : decode code 1707 = .ok (.dstore 5, 2) := by decide +kernel
theorem d_law_1709 : decode code 1709 = .ok (.aload_n 2, 1) := by decide +kernel
theorem d_law_1710 : decode code 1710 = .ok (.invokevirtual 264, 3) := by decide +kernel
theorem d_law_1713 : decode code 1713 = .ok (.f2d, 1) := by decide +kernel
theorem d_law_1714 : decode code 1714 = .ok (.dstore 7, 2) := by decide +kernel
theorem d_law_1716 : decode code 1716 = .ok (.dload 5, 2) := by decide +kernel
theorem d_law_1718 : decode code 1718 = .ok (.dload 7, 2) := by decide +kernel
theorem d_law_1720 : decode code 1720 = .ok (.dcmp .l, 1) := by decide +kernel
theorem d_law_1721 : decode code 1721 = .ok (.ifCond .eq 21, 3) := by decide +kernel
theorem d_law_1724 : decode code 1724 = .ok (.dload 5, 2) := by decide +kernel
theorem d_law_1726 : decode code 1726 = .ok (.dload 5, 2) := by decide +kernel
theorem d_law_1728 : decode code 1728 = .ok (.dcmp .l, 1) := by decide +kernel
theorem d_law_1729 : decode code 1729 = .ok (.ifCond .eq 11, 3) := by decide +kernel
theorem d_law_1732 : decode code 1732 = .ok (.dload 7, 2) := by decide +kernel
theorem d_law_1734 : decode code 1734 = .ok (.dload 7, 2) := by decide +kernel
theorem d_law_1736 : decode code 1736 = .ok (.dcmp .l, 1) := by decide +kernel
theorem d_law_1737 : decode code 1737 = .ok (.ifCond .ne 5, 3) := by decide +kernel
theorem d_law_1740 : decode code 1740 = .ok (.iconst 0, 1) := by decide +kernel
theorem d_law_1741 : decode code 1741 = .ok (.ireturn, 1) := by decide +kernel
theorem d_law_1742 : decode code 1742 = .ok (.goto 1008, 3) := by decide +kernel
theorem d_law_1745 : decode code 1745 = .ok (.aload_n 1, 1) := by decide +kernel
theorem d_law_1746 : decode code 1746 = .ok (.invokevirtual 265, 3) := by decide +kernel
theorem d_law_1749 : decode code 1749 = .ok (.dstore 5, 2) := by decide +kernel
theorem d_law_1751 : decode code 1751 = .ok (.aload_n 2, 1) := by decide +kernel
theorem d_law_1752 : decode code 1752 = .ok (.invokevirtual 269, 3) := by decide +kernel
theorem d_law_1755 : decode code 1755 = .ok (.dstore 7, 2) := by decide +kernel
theorem d_law_1757 : decode code 1757 = .ok (.dload 5, 2) := by decide +kernel
theorem d_law_1759 : decode code 1759 = .ok (.dload 7, 2) := by decide +kernel
theorem d_law_1761 : decode code 1761 = .ok (.dcmp .l, 1) := by decide +kernel
theorem d_law_1762 : decode code 1762 = .ok (.ifCond .eq 21, 3) := by decide +kernel
theorem d_law_1765 : decode code 1765 = .ok (.dload 5, 2) := by decide +kernel
theorem d_law_1767 : decode code 1767 = .ok (.dload 5, 2) := by decide +kernel
theorem d_law_1769 : decode code 1769 = .ok (.dcmp .l, 1) := by decide +kernel
theorem d_law_1770 : decode code 1770 = .ok (.ifCond .eq 11, 3) := by decide +kernel
theorem d_law_1773 : decode code 1773 = .ok (.dload 7, 2) := by decide +kernel
theorem d_law_1775 : decode code 1775 = .ok (.dload 7, 2) := by decide +kernel
theorem d_law_1777 : decode code 1777 = .ok (.dcmp .l, 1) := by decide +kernel
theorem d_law_1778 : decode code 1778 = .ok (.ifCond .ne 5, 3) := by decide +kernel
theorem d_law_1781 : decode code 1781 = .ok (.iconst 0, 1) := by decide +kernel
theorem d_law_1782 : decode code 1782 = .ok (.ireturn, 1) := by decide +kernel
theorem d_law_1783 : decode code 1783 = .ok (.goto 967, 3) := by decide +kernel
theorem d_law_1786 : decode code 1786 = .ok (.aload_n 1, 1) := by decide +kernel
theorem d_law_1787 : decode code 1787 = .ok (.invokevirtual 270, 3) := by decide +kernel
theorem d_law_1790 : decode code 1790 = .ok (.aload_n 2, 1) := by decide +kernel
theorem d_law_1791 : decode code 1791 = .ok (.invokevirtual 273, 3) := by decide +kernel
theorem d_law_1794 : decode code 1794 = .ok (.if_icmp .eq 956, 3) := by decide +kernel
theorem d_law_1797 : decode code 1797 = .ok (.iconst 0, 1) := by decide +kernel
theorem d_law_1798 : decode code 1798 = .ok (.ireturn, 1) := by decide +kernel
theorem d_law_1799 : decode code 1799 = .ok (.aload_n 1, 1) := by decide +kernel
theorem d_law_1800 : decode code 1800 = .ok (.aload_n 0, 1) := by decide +kernel
theorem d_law_1801 : decode code 1801 = .ok (.iload 4, 2) := by decide +kernel
theorem d_law_1803 : decode code 1803 = .ok (.iconst 1, 1) := by decide +kernel
theorem d_law_1804 : decode code 1804 = .ok (.iadd, 1) := by decide +kernel
theorem d_law_1805 : decode code 1805 = .ok (.iaload, 1) := by decide +kernel
theorem d_law_1806 : decode code 1806 = .ok (.aload_n 3, 1) := by decide +kernel
theorem d_law_1807 : decode code 1807 = .ok (.invokestatic 274, 3) := by decide +kernel
theorem d_law_1810 : decode code 1810 = .ok (.istore 5, 2) := by decide +kernel
theorem d_law_1812 : decode code 1812 = .ok (.aload_n 2, 1) := by decide +kernel
theorem d_law_1813 : decode code 1813 = .ok (.aload_n 0, 1) := by decide +kernel
theorem d_law_1814 : decode code 1814 = .ok (.iload 4, 2) := by decide +kernel
theorem d_law_1816 : decode code 1816 = .ok (.iconst 1, 1) := by decide +kernel
theorem d_law_1817 : decode code 1817 = .ok (.iadd, 1) := by decide +kernel
theorem d_law_1818 : decode code 1818 = .ok (.iaload, 1) := by decide +kernel
theorem d_law_1819 : decode code 1819 = .ok (.invokevirtual 276, 3) := by decide +kernel
theorem d_law_1822 : decode code 1822 = .ok (.istore 6, 2) := by decide +kernel
theorem d_law_1824 : decode code 1824 = .ok (.aload_n 2, 1) := by decide +kernel
theorem d_law_1825 : decode code 1825 = .ok (.invokevirtual 133, 3) := by decide +kernel
theorem d_law_1828 : decode code 1828 = .ok (.iload 5, 2) := by decide +kernel
theorem d_law_1830 : decode code 1830 = .ok (.if_icmp .eq 5, 3) := by decide +kernel
theorem d_law_1833 : decode code 1833 = .ok (.iconst 0, 1) := by decide +kernel
theorem d_law_1834 : decode code 1834 = .ok (.ireturn, 1) := by decide +kernel
theorem d_law_1835 : decode code 1835 = .ok (.iload 5, 2) := by decide +kernel
theorem d_law_1837 : decode code 1837 = .ok (.ifCond .ne 15, 3) := by decide +kernel
theorem d_law_1840 : decode code 1840 = .ok (.aload_n 3, 1) := by decide +kernel
theorem d_law_1841 : decode code 1841 = .ok (.iconst 0, 1) := by decide +kernel
theorem d_law_1842 : decode code 1842 = .ok (.laload, 1) := by decide +kernel
theorem d_law_1843 : decode code 1843 = .ok (.iload 6, 2) := by decide +kernel
theorem d_law_1845 : decode code 1845 = .ok (.i2l, 1) := by decide +kernel
theorem d_law_1846 : decode code 1846 = .ok (.lcmp, 1) := by decide +kernel
theorem d_law_1847 : decode code 1847 = .ok (.ifCond .eq 5, 3) := by decide +kernel
theorem d_law_1850 : decode code 1850 = .ok (.iconst 0, 1) := by decide +kernel
theorem d_law_1851 : decode code 1851 = .ok (.ireturn, 1) := by decide +kernel
theorem d_law_1852 : decode code 1852 = .ok (.goto 898, 3) := by decide +kernel
theorem d_law_1855 : decode code 1855 = .ok (.aload_n 1, 1) := by decide +kernel
theorem d_law_1856 : decode code 1856 = .ok (.aload_n 0, 1) := by decide +kernel
theorem d_law_1857 : decode code 1857 = .ok (.iload 4, 2) := by decide +kernel
theorem d_law_1859 : decode code 1859 = .ok (.iconst 1, 1) := by decide +kernel
theorem d_law_1860 : decode code 1860 = .ok (.iadd, 1) := by decide +kernel
theorem d_law_1861 : decode code 1861 = .ok (.iaload, 1) := by decide +kernel
theorem d_law_1862 : decode code 1862 = .ok (.aload_n 3, 1) := by decide +kernel
theorem d_law_1863 : decode code 1863 = .ok (.invokestatic 277, 3) := by decide +kernel
theorem d_law_1866 : decode code 1866 = .ok (.istore 5, 2) := by decide +kernel
theorem d_law_1868 : decode code 1868 = .ok (.aload_n 2, 1) := by decide +kernel
theorem d_law_1869 : decode code 1869 = .ok (.aload_n 0, 1) := by decide +kernel
theorem d_law_1870 : decode code 1870 = .ok (.iload 4, 2) := by decide +kernel
theorem d_law_1872 : decode code 1872 = .ok (.iconst 1, 1) := by decide +kernel
theorem d_law_1873 : decode code 1873 = .ok (.iadd, 1) := by decide +kernel
theorem d_law_1874 : decode code 1874 = .ok (.iaload, 1) := by decide +kernel
theorem d_law_1875 : decode code 1875 = .ok (.invokevirtual 279, 3) := by decide +kernel
theorem d_law_1878 : decode code 1878 = .ok (.istore 6, 2) := by decide +kernel
theorem d_law_1880 : decode code 1880 = .ok (.aload_n 2, 1) := by decide +kernel
theorem d_law_1881 : decode code 1881 = .ok (.invokevirtual 133, 3) := by decide +kernel
theorem d_law_1884 : decode code 1884 = .ok (.iload 5, 2) := by decide +kernel
theorem d_law_1886 : decode code 1886 = .ok (.if_icmp .eq 5, 3) := by decide +kernel
theorem d_law_1889 : decode code 1889 = .ok (.iconst 0, 1) := by decide +kernel
theorem d_law_1890 : decode code 1890 = .ok (.ireturn, 1) := by decide +kernel
theorem d_law_1891 : decode code 1891 = .ok (.iload 5, 2) := by decide +kernel
theorem d_law_1893 : decode code 1893 = .ok (.ifCond .ne 15, 3) := by decide +kernel
theorem d_law_1896 : decode code 1896 = .ok (.aload_n 3, 1) := by decide +kernel
theorem d_law_1897 : decode code 1897 = .ok (.iconst 0, 1) := by decide +kernel
theorem d_law_1898 : decode code 1898 = .ok (.laload, 1) := by decide +kernel
theorem d_law_1899 : decode code 1899 = .ok (.iload 6, 2) := by decide +kernel
theorem d_law_1901 : decode code 1901 = .ok (.i2l, 1) := by decide +kernel
theorem d_law_1902 : decode code 1902 = .ok (.lcmp, 1) := by decide +kernel
theorem d_law_1903 : decode code 1903 = .ok (.ifCond .eq 5, 3) := by decide +kernel
theorem d_law_1906 : decode code 1906 = .ok (.iconst 0, 1) := by decide +kernel
theorem d_law_1907 : decode code 1907 = .ok (.ireturn, 1) := by decide +kernel
theorem d_law_1908 : decode code 1908 = .ok (.goto 842, 3) := by decide +kernel
theorem d_law_1911 : decode code 1911 = .ok (.aload_n 1, 1) := by decide +kernel
theorem d_law_1912 : decode code 1912 = .ok (.aload_n 0, 1) := by decide +kernel
theorem d_law_1913 : decode code 1913 = .ok (.iload 4, 2) := by decide +kernel
theorem d_law_1915 : decode code 1915 = .ok (.iconst 1, 1) := by decide +kernel
theorem d_law_1916 : decode code 1916 = .ok (.iadd, 1) := by decide +kernel
theorem d_law_1917 : decode code 1917 = .ok (.iaload, 1) := by decide +kernel
theorem d_law_1918 : decode code 1918 = .ok (.aload_n 3, 1) := by decide +kernel
theorem d_law_1919 : decode code 1919 = .ok (.invokestatic 280, 3) := by decide +kernel
theorem d_law_1922 : decode code 1922 = .ok (.istore 5, 2) := by decide +kernel
theorem d_law_1924 : decode code 1924 = .ok (.aload_n 2, 1) := by decide +kernel
theorem d_law_1925 : decode code 1925 = .ok (.aload_n 0, 1) := by decide +kernel
theorem d_law_1926 : decode code 1926 = .ok (.iload 4, 2) := by decide +kernel
theorem d_law_1928 : decode code 1928 = .ok (.iconst 1, 1) := by decide +kernel
theorem d_law_1929 : decode code 1929 = .ok (.iadd, 1) := by decide +kernel
theorem d_law_1930 : decode code 1930 = .ok (.iaload, 1) := by decide +kernel
theorem d_law_1931 : decode code 1931 = .ok (.invokevirtual 282, 3) := by decide +kernel
theorem d_law_1934 : decode code 1934 = .ok (.istore 6, 2) := by decide +kernel
theorem d_law_1936 : decode code 1936 = .ok (.aload_n 2, 1) := by decide +kernel
theorem d_law_1937 : decode code 1937 = .ok (.invokevirtual 133, 3) := by decide +kernel
theorem d_law_1940 : decode code 1940 = .ok (.iload 5, 2) := by decide +kernel
theorem d_law_1942 : decode code 1942 = .ok (.if_icmp .eq 5, 3) := by decide +kernel
theorem d_law_1945 : decode code 1945 = .ok (.iconst 0, 1) := by decide +kernel
theorem d_law_1946 : decode code 1946 = .ok (.ireturn, 1) := by decide +kernel
theorem d_law_1947 : decode code 1947 = .ok (.iload 5, 2) := by decide +kernel
theorem d_law_1949 : decode code 1949 = .ok (.ifCond .ne 15, 3) := by decide +kernel
theorem d_law_1952 : decode code 1952 = .ok (.aload_n 3, 1) := by decide +kernel
theorem d_law_1953 : decode code 1953 = .ok (.iconst 0, 1) := by decide +kernel
theorem d_law_1954 : decode code 1954 = .ok (.laload, 1) := by decide +kernel
theorem d_law_1955 : decode code 1955 = .ok (.iload 6, 2) := by decide +kernel
theorem d_law_1957 : decode code 1957 = .ok (.i2l, 1) := by decide +kernel
