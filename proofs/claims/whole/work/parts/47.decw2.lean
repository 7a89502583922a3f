theorem d_Lw_law_1155 : decode code 1155 = .ok (.iaload, 1) := by decide +kernel
theorem d_Lw_law_1156 : decode code 1156 = .ok (.aload_n 0, 1) := by decide +kernel
theorem d_Lw_law_1157 : decode code 1157 = .ok (.iload 4, 2) := by decide +kernel
theorem d_Lw_law_1159 : decode code 1159 = .ok (.iconst 3, 1) := by decide +kernel
theorem d_Lw_law_1160 : decode code 1160 = .ok (.iadd, 1) := by decide +kernel
theorem d_Lw_law_1161 : decode code 1161 = .ok (.iaload, 1) := by decide +kernel
theorem d_Lw_law_1162 : decode code 1162 = .ok (.aload_n 0, 1) := by decide +kernel
theorem d_Lw_law_1163 : decode code 1163 = .ok (.iload 4, 2) := by decide +kernel
theorem d_Lw_law_1165 : decode code 1165 = .ok (.iconst 4, 1) := by decide +kernel
theorem d_Lw_law_1166 : decode code 1166 = .ok (.iadd, 1) := by decide +kernel
theorem d_Lw_law_1167 : decode code 1167 = .ok (.iaload, 1) := by decide +kernel
theorem d_Lw_law_1168 : decode code 1168 = .ok (.invokevirtual 158, 3) := by decide +kernel
theorem d_Lw_law_1171 : decode code 1171 = .ok (.istore 6, 2) := by decide +kernel
theorem d_Lw_law_1173 : decode code 1173 = .ok (.aload_n 2, 1) := by decide +kernel
theorem d_Lw_law_1174 : decode code 1174 = .ok (.invokevirtual 113, 3) := by decide +kernel
theorem d_Lw_law_1177 : decode code 1177 = .ok (.iload 5, 2) := by decide +kernel
theorem d_Lw_law_1179 : decode code 1179 = .ok (.if_icmp .eq 5, 3) := by decide +kernel
theorem d_Lw_law_1182 : decode code 1182 = .ok (.iconst 0, 1) := by decide +kernel
theorem d_Lw_law_1183 : decode code 1183 = .ok (.ireturn, 1) := by decide +kernel
theorem d_Lw_law_1184 : decode code 1184 = .ok (.iload 5, 2) := by decide +kernel
theorem d_Lw_law_1186 : decode code 1186 = .ok (.ifCond .ne 22, 3) := by decide +kernel
theorem d_Lw_law_1189 : decode code 1189 = .ok (.aload_n 3, 1) := by decide +kernel
theorem d_Lw_law_1190 : decode code 1190 = .ok (.iconst 0, 1) := by decide +kernel
theorem d_Lw_law_1191 : decode code 1191 = .ok (.laload, 1) := by decide +kernel
theorem d_Lw_law_1192 : decode code 1192 = .ok (.iload 6, 2) := by decide +kernel
theorem d_Lw_law_1194 : decode code 1194 = .ok (.ifCond .eq 7, 3) := by decide +kernel
theorem d_Lw_law_1197 : decode code 1197 = .ok (.lconst 1, 1) := by decide +kernel
theorem d_Lw_law_1198 : decode code 1198 = .ok (.goto 4, 3) := by decide +kernel
theorem d_Lw_law_1201 : decode code 1201 = .ok (.lconst 0, 1) := by decide +kernel
theorem d_Lw_law_1202 : decode code 1202 = .ok (.lcmp, 1) := by decide +kernel
theorem d_Lw_law_1203 : decode code 1203 = .ok (.ifCond .eq 5, 3) := by decide +kernel
theorem d_Lw_law_1206 : decode code 1206 = .ok (.iconst 0, 1) := by decide +kernel
theorem d_Lw_law_1207 : decode code 1207 = .ok (.ireturn, 1) := by decide +kernel
theorem d_Lw_law_1208 : decode code 1208 = .ok (.goto 974, 3) := by decide +kernel
theorem d_Lw_law_1211 : decode code 1211 = .ok (.aload_n 1, 1) := by decide +kernel
theorem d_Lw_law_1212 : decode code 1212 = .ok (.aload_n 0, 1) := by decide +kernel
theorem d_Lw_law_1213 : decode code 1213 = .ok (.iload 4, 2) := by decide +kernel
theorem d_Lw_law_1215 : decode code 1215 = .ok (.iconst 1, 1) := by decide +kernel
theorem d_Lw_law_1216 : decode code 1216 = .ok (.iadd, 1) := by decide +kernel
theorem d_Lw_law_1217 : decode code 1217 = .ok (.iaload, 1) := by decide +kernel
theorem d_Lw_law_1218 : decode code 1218 = .ok (.aload_n 0, 1) := by decide +kernel
theorem d_Lw_law_1219 : decode code 1219 = .ok (.iload 4, 2) := by decide +kernel
theorem d_Lw_law_1221 : decode code 1221 = .ok (.iconst 2, 1) := by decide +kernel
theorem d_Lw_law_1222 : decode code 1222 = .ok (.iadd, 1) := by decide +kernel
theorem d_Lw_law_1223 : decode code 1223 = .ok (.iaload, 1) := by decide +kernel
theorem d_Lw_law_1224 : decode code 1224 = .ok (.aload_n 3, 1) := by decide +kernel
theorem d_Lw_law_1225 : decode code 1225 = .ok (.invokestatic 159, 3) := by decide +kernel
theorem d_Lw_law_1228 : decode code 1228 = .ok (.istore 5, 2) := by decide +kernel
theorem d_Lw_law_1230 : decode code 1230 = .ok (.aload_n 2, 1) := by decide +kernel
theorem d_Lw_law_1231 : decode code 1231 = .ok (.aload_n 0, 1) := by decide +kernel
theorem d_Lw_law_1232 : decode code 1232 = .ok (.iload 4, 2) := by decide +kernel
theorem d_Lw_law_1234 : decode code 1234 = .ok (.iconst 1, 1) := by decide +kernel
theorem d_Lw_law_1235 : decode code 1235 = .ok (.iadd, 1) := by decide +kernel
theorem d_Lw_law_1236 : decode code 1236 = .ok (.iaload, 1) := by decide +kernel
theorem d_Lw_law_1237 : decode code 1237 = .ok (.aload_n 0, 1) := by decide +kernel
theorem d_Lw_law_1238 : decode code 1238 = .ok (.iload 4, 2) := by decide +kernel
theorem d_Lw_law_1240 : decode code 1240 = .ok (.iconst 2, 1) := by decide +kernel
theorem d_Lw_law_1241 : decode code 1241 = .ok (.iadd, 1) := by decide +kernel
theorem d_Lw_law_1242 : decode code 1242 = .ok (.iaload, 1) := by decide +kernel
theorem d_Lw_law_1243 : decode code 1243 = .ok (.invokevirtual 161, 3) := by decide +kernel
theorem d_Lw_law_1246 : decode code 1246 = .ok (.istore 6, 2) := by decide +kernel
theorem d_Lw_law_1248 : decode code 1248 = .ok (.aload_n 2, 1) := by decide +kernel
theorem d_Lw_law_1249 : decode code 1249 = .ok (.invokevirtual 113, 3) := by decide +kernel
theorem d_Lw_law_1252 : decode code 1252 = .ok (.iload 5, 2) := by decide +kernel
theorem d_Lw_law_1254 : decode code 1254 = .ok (.if_icmp .eq 5, 3) := by decide +kernel
theorem d_Lw_law_1257 : decode code 1257 = .ok (.iconst 0, 1) := by decide +kernel
theorem d_Lw_law_1258 : decode code 1258 = .ok (.ireturn, 1) := by decide +kernel
theorem d_Lw_law_1259 : decode code 1259 = .ok (.iload 5, 2) := by decide +kernel
theorem d_Lw_law_1261 : decode code 1261 = .ok (.ifCond .ne 15, 3) := by decide +kernel
theorem d_Lw_law_1264 : decode code 1264 = .ok (.aload_n 3, 1) := by decide +kernel
theorem d_Lw_law_1265 : decode code 1265 = .ok (.iconst 0, 1) := by decide +kernel
theorem d_Lw_law_1266 : decode code 1266 = .ok (.laload, 1) := by decide +kernel
theorem d_Lw_law_1267 : decode code 1267 = .ok (.iload 6, 2) := by decide +kernel
theorem d_Lw_law_1269 : decode code 1269 = .ok (.i2l, 1) := by decide +kernel
theorem d_Lw_law_1270 : decode code 1270 = .ok (.lcmp, 1) := by decide +kernel
theorem d_Lw_law_1271 : decode code 1271 = .ok (.ifCond .eq 5, 3) := by decide +kernel
theorem d_Lw_law_1274 : decode code 1274 = .ok (.iconst 0, 1) := by decide +kernel
theorem d_Lw_law_1275 : decode code 1275 = .ok (.ireturn, 1) := by decide +kernel
theorem d_Lw_law_1276 : decode code 1276 = .ok (.goto 906, 3) := by decide +kernel
theorem d_Lw_law_1279 : decode code 1279 = .ok (.aload_n 1, 1) := by decide +kernel
theorem d_Lw_law_1280 : decode code 1280 = .ok (.aload_n 0, 1) := by decide +kernel
theorem d_Lw_law_1281 : decode code 1281 = .ok (.iload 4, 2) := by decide +kernel
theorem d_Lw_law_1283 : decode code 1283 = .ok (.iconst 1, 1) := by decide +kernel
theorem d_Lw_law_1284 : decode code 1284 = .ok (.iadd, 1) := by decide +kernel
theorem d_Lw_law_1285 : decode code 1285 = .ok (.iaload, 1) := by decide +kernel
theorem d_Lw_law_1286 : decode code 1286 = .ok (.aload_n 0, 1) := by decide +kernel
theorem d_Lw_law_1287 : decode code 1287 = .ok (.iload 4, 2) := by decide +kernel
theorem d_Lw_law_1289 : decode code 1289 = .ok (.iconst 2, 1) := by decide +kernel
theorem d_Lw_law_1290 : decode code 1290 = .ok (.iadd, 1) := by decide +kernel
theorem d_Lw_law_1291 : decode code 1291 = .ok (.iaload, 1) := by decide +kernel
theorem d_Lw_law_1292 : decode code 1292 = .ok (.aload_n 3, 1) := by decide +kernel
theorem d_Lw_law_1293 : decode code 1293 = .ok (.invokestatic 162, 3) := by decide +kernel
theorem d_Lw_law_1296 : decode code 1296 = .ok (.istore 5, 2) := by decide +kernel
theorem d_Lw_law_1298 : decode code 1298 = .ok (.aload_n 2, 1) := by decide +kernel
theorem d_Lw_law_1299 : decode code 1299 = .ok (.aload_n 0, 1) := by decide +kernel
theorem d_Lw_law_1300 : decode code 1300 = .ok (.iload 4, 2) := by decide +kernel
theorem d_Lw_law_1302 : decode code 1302 = .ok (.iconst 1, 1) := by decide +kernel
theorem d_Lw_law_1303 : decode code 1303 = .ok (.iadd, 1) := by decide +kernel
theorem d_Lw_law_1304 : decode code 1304 = .ok (.iaload, 1) := by decide +kernel
theorem d_Lw_law_1305 : decode code 1305 = .ok (.aload_n 0, 1) := by decide +kernel
theorem d_Lw_law_1306 : decode code 1306 = .ok (.iload 4, 2) := by decide +kernel
theorem d_Lw_law_1308 : decode code 1308 = .ok (.iconst 2, 1) := by decide +kernel
theorem d_Lw_law_1309 : decode code 1309 = .ok (.iadd, 1) := by decide +kernel
theorem d_Lw_law_1310 : decode code 1310 = .ok (.iaload, 1) := by decide +kernel
theorem d_Lw_law_1311 : decode code 1311 = .ok (.invokevirtual 164, 3) := by decide +kernel
theorem d_Lw_law_1314 : decode code 1314 = .ok (.istore 6, 2) := by decide +kernel
theorem d_Lw_law_1316 : decode code 1316 = .ok (.aload_n 2, 1) := by decide +kernel
theorem d_Lw_law_1317 : decode code 1317 = .ok (.invokevirtual 113, 3) := by decide +kernel
theorem d_Lw_law_1320 : decode code 1320 = .ok (.iload 5, 2) := by decide +kernel
theorem d_Lw_law_1322 : decode code 1322 = .ok (.if_icmp .eq 5, 3) := by decide +kernel
theorem d_Lw_law_1325 : decode code 1325 = .ok (.iconst 0, 1) := by decide +kernel
theorem d_Lw_law_1326 : decode code 1326 = .ok (.ireturn, 1) := by decide +kernel
theorem d_Lw_law_1327 : decode code 1327 = .ok (.iload 5, 2) := by decide +kernel
theorem d_Lw_law_1329 : decode code 1329 = .ok (.ifCond .ne 15, 3) := by decide +kernel
theorem d_Lw_law_1332 : decode code 1332 = .ok (.aload_n 3, 1) := by decide +kernel
theorem d_Lw_law_1333 : decode code 1333 = .ok (.iconst 0, 1) := by decide +kernel
theorem d_Lw_law_1334 : decode code 1334 = .ok (.laload, 1) := by decide +kernel
theorem d_Lw_law_1335 : decode code 1335 = .ok (.iload 6, 2) := by decide +kernel
theorem d_Lw_law_1337 : decode code 1337 = .ok (.i2l, 1) := by decide +kernel
theorem d_Lw_law_1338 : decode code 1338 = .ok (.lcmp, 1) := by decide +kernel
theorem d_Lw_law_1339 : decode code 1339 = .ok (.ifCond .eq 5, 3) := by decide +kernel
theorem d_Lw_law_1342 : decode code 1342 = .ok (.iconst 0, 1) := by decide +kernel
theorem d_Lw_law_1343 : decode code 1343 = .ok (.ireturn, 1) := by decide +kernel
theorem d_Lw_law_1344 : decode code 1344 = .ok (.goto 838, 3) := by decide +kernel
theorem d_Lw_law_1347 : decode code 1347 = .ok (.aload_n 1, 1) := by decide +kernel
theorem d_Lw_law_1348 : decode code 1348 = .ok (.aload_n 0, 1) := by decide +kernel
theorem d_Lw_law_1349 : decode code 1349 = .ok (.iload 4, 2) := by decide +kernel
theorem d_Lw_law_1351 : decode code 1351 = .ok (.iconst 1, 1) := by decide +kernel
theorem d_Lw_law_1352 : decode code 1352 = .ok (.iadd, 1) := by decide +kernel
theorem d_Lw_law_1353 : decode code 1353 = .ok (.iaload, 1) := by decide +kernel
theorem d_Lw_law_1354 : decode code 1354 = .ok (.aload_n 0, 1) := by decide +kernel
theorem d_Lw_law_1355 : decode code 1355 = .ok (.iload 4, 2) := by decide +kernel
theorem d_Lw_law_1357 : decode code 1357 = .ok (.iconst 2, 1) := by decide +kernel
theorem d_Lw_law_1358 : decode code 1358 = .ok (.iadd, 1) := by decide +kernel
theorem d_Lw_law_1359 : decode code 1359 = .ok (.iaload, 1) := by decide +kernel
theorem d_Lw_law_1360 : decode code 1360 = .ok (.aload_n 0, 1) := by decide +kernel
theorem d_Lw_law_1361 : decode code 1361 = .ok (.iload 4, 2) := by decide +kernel
theorem d_Lw_law_1363 : decode code 1363 = .ok (.iconst 3, 1) := by decide +kernel
theorem d_Lw_law_1364 : decode code 1364 = .ok (.iadd, 1) := by decide +kernel
theorem d_Lw_law_1365 : decode code 1365 = .ok (.iaload, 1) := by decide +kernel
theorem d_Lw_law_1366 : decode code 1366 = .ok (.aload_n 0, 1) := by decide +kernel
theorem d_Lw_law_1367 : decode code 1367 = .ok (.iload 4, 2) := by decide +kernel
theorem d_Lw_law_1369 : decode code 1369 = .ok (.iconst 4, 1) := by decide +kernel
theorem d_Lw_law_1370 : decode code 1370 = .ok (.iadd, 1) := by decide +kernel
theorem d_Lw_law_1371 : decode code 1371 = .ok (.iaload, 1) := by decide +kernel
theorem d_Lw_law_1372 : decode code 1372 = .ok (.aload_n 3, 1) := by decide +kernel
theorem d_Lw_law_1373 : decode code 1373 = .ok (.invokestatic 165, 3) := by decide +kernel
theorem d_Lw_law_1376 : decode code 1376 = .ok (.istore 5, 2) := by decide +kernel
theorem d_Lw_law_1378 : decode code 1378 = .ok (.aload_n 2, 1) := by decide +kernel
theorem d_Lw_law_1379 : decode code 1379 = .ok (.aload_n 0, 1) := by decide +kernel
theorem d_Lw_law_1380 : decode code 1380 = .ok (.iload 4, 2) := by decide +kernel
theorem d_Lw_law_1382 : decode code 1382 = .ok (.iconst 1, 1) := by decide +kernel
theorem d_Lw_law_1383 : decode code 1383 = .ok (.iadd, 1) := by decide +kernel
theorem d_Lw_law_1384 : decode code 1384 = .ok (.iaload, 1) := by decide +kernel
theorem d_Lw_law_1385 : decode code 1385 = .ok (.aload_n 0, 1) := by decide +kernel
theorem d_Lw_law_1386 : decode code 1386 = .ok (.iload 4, 2) := by decide +kernel
theorem d_Lw_law_1388 : decode code 1388 = .ok (.iconst 2, 1) := by decide +kernel
theorem d_Lw_law_1389 : decode code 1389 = .ok (.iadd, 1) := by decide +kernel
theorem d_Lw_law_1390 : decode code 1390 = .ok (.iaload, 1) := by decide +kernel
theorem d_Lw_law_1391 : decode code 1391 = .ok (.aload_n 0, 1) := by decide +kernel
theorem d_Lw_law_1392 : decode code 1392 = .ok (.iload 4, 2) := by decide +kernel
theorem d_Lw_law_1394 : decode code 1394 = .ok (.iconst 3, 1) := by decide +kernel
theorem d_Lw_law_1395 : decode code 1395 = .ok (.iadd, 1) := by decide +kernel
theorem d_Lw_law_1396 : decode code 1396 = .ok (.iaload, 1) := by decide +kernel
theorem d_Lw_law_1397 : decode code 1397 = .ok (.aload_n 0, 1) := by decide +kernel
theorem d_Lw_law_1398 : decode code 1398 = .ok (.iload 4, 2) := by decide +kernel
theorem d_Lw_law_1400 : decode code 1400 = .ok (.iconst 4, 1) := by decide +kernel
theorem d_Lw_law_1401 : decode code 1401 = .ok (.iadd, 1) := by decide +kernel
theorem d_Lw_law_1402 : decode code 1402 = .ok (.iaload, 1) := by decide +kernel
theorem d_Lw_law_1403 : decode code 1403 = .ok (.invokevirtual 167, 3) := by decide +kernel
theorem d_Lw_law_1406 : decode code 1406 = .ok (.istore 6, 2) := by decide +kernel
theorem d_Lw_law_1408 : decode code 1408 = .ok (.aload_n 2, 1) := by decide +kernel
theorem d_Lw_law_1409 : decode code 1409 = .ok (.invokevirtual 113, 3) := by decide +kernel
theorem d_Lw_law_1412 : decode code 1412 = .ok (.iload 5, 2) := by decide +kernel
theorem d_Lw_law_1414 : decode code 1414 = .ok (.if_icmp .eq 5, 3) := by decide +kernel
theorem d_Lw_law_1417 : decode code 1417 = .ok (.iconst 0, 1) := by decide +kernel
theorem d_Lw_law_1418 : decode code 1418 = .ok (.ireturn, 1) := by decide +kernel
theorem d_Lw_law_1419 : decode code 1419 = .ok (.iload 5, 2) := by decide +kernel
theorem d_Lw_law_1421 : decode code 1421 = .ok (.ifCond .ne 15, 3) := by decide +kernel
theorem d_Lw_law_1424 : decode code 1424 = .ok (.aload_n 3, 1) := by decide +kernel
theorem d_Lw_law_1425 : decode code 1425 = .ok (.iconst 0, 1) := by decide +kernel
theorem d_Lw_law_1426 : decode code 1426 = .ok (.laload, 1) := by decide +kernel
theorem d_Lw_law_1427 : decode code 1427 = .ok (.iload 6, 2) := by decide +kernel
theorem d_Lw_law_1429 : decode code 1429 = .ok (.i2l, 1) := by decide +kernel
theorem d_Lw_law_1430 : decode code 1430 = .ok (.lcmp, 1) := by decide +kernel
theorem d_Lw_law_1431 : decode code 1431 = .ok (.ifCond .eq 5, 3) := by decide +kernel
theorem d_Lw_law_1434 : decode code 1434 = .ok (.iconst 0, 1) := by decide +kernel
theorem d_Lw_law_1435 : decode code 1435 = .ok (.ireturn, 1) := by decide +kernel
theorem d_Lw_law_1436 : decode code 1436 = .ok (.goto 746, 3) := by decide +kernel
theorem d_Lw_law_1439 : decode code 1439 = .ok (.aload_n 1, 1) := by decide +kernel
theorem d_Lw_law_1440 : decode code 1440 = .ok (.aload_n 0, 1) := by decide +kernel
theorem d_Lw_law_1441 : decode code 1441 = .ok (.iload 4, 2) := by decide +kernel
theorem d_Lw_law_1443 : decode code 1443 = .ok (.iconst 1, 1) := by decide +kernel
theorem d_Lw_law_1444 : decode code 1444 = .ok (.iadd, 1) := by decide +kernel
theorem d_Lw_law_1445 : decode code 1445 = .ok (.iaload, 1) := by decide +kernel
theorem d_Lw_law_1446 : decode code 1446 = .ok (.aload_n 0, 1) := by decide +kernel
theorem d_Lw_law_1447 : decode code 1447 = .ok (.iload 4, 2) := by decide +kernel
theorem d_Lw_law_1449 : decode code 1449 = .ok (.iconst 2, 1) := by decide +kernel
theorem d_Lw_law_1450 : decode code 1450 = .ok (.iadd, 1) := by decide +kernel
theorem d_Lw_law_1451 : decode code 1451 = .ok (.iaload, 1) := by decide +kernel
theorem d_Lw_law_1452 : decode code 1452 = .ok (.aload_n 0, 1) := by decide +kernel
theorem d_Lw_law_1453 : decode code 1453 = .ok (.iload 4, 2) := by decide +kernel
theorem d_Lw_law_1455 : decode code 1455 = .ok (.iconst 3, 1) := by decide +kernel
theorem d_Lw_law_1456 : decode code 1456 = .ok (.iadd, 1) := by decide +kernel
theorem d_Lw_law_1457 : decode code 1457 = .ok (.iaload, 1) := by decide +kernel
theorem d_Lw_law_1458 : decode code 1458 = .ok (.aload_n 3, 1) := by decide +kernel
theorem d_Lw_law_1459 : decode code 1459 = .ok (.invokestatic 168, 3) := by decide +kernel
theorem d_Lw_law_1462 : decode code 1462 = .ok (.istore 5, 2) := by decide +kernel
theorem d_Lw_law_1464 : decode code 1464 = .ok (.aload_n 2, 1) := by decide +kernel
theorem d_Lw_law_1465 : decode code 1465 = .ok (.aload_n 0, 1) := by decide +kernel
theorem d_Lw_law_1466 : decode code 1466 = .ok (.iload 4, 2) := by decide +kernel
theorem d_Lw_law_1468 : decode code 1468 = .ok (.iconst 1, 1) := by decide +kernel
theorem d_Lw_law_1469 : decode code 1469 = .ok (.iadd, 1) := by decide +kernel
theorem d_Lw_law_1470 : decode code 1470 = .ok (.iaload, 1) := by decide +kernel
theorem d_Lw_law_1471 : decode code 1471 = .ok (.aload_n 0, 1) := by decide +kernel
theorem d_Lw_law_1472 : decode code 1472 = .ok (.iload 4, 2) := by decide +kernel
theorem d_Lw_law_1474 : decode code 1474 = .ok (.iconst 2, 1) := by decide +kernel
theorem d_Lw_law_1475 : decode code 1475 = .ok (.iadd, 1) := by decide +kernel
theorem d_Lw_law_1476 : decode code 1476 = .ok (.iaload, 1) := by decide +kernel
theorem d_Lw_law_1477 : decode code 1477 = .ok (.aload_n 0, 1) := by decide +kernel
theorem d_Lw_law_1478 : decode code 1478 = .ok (.iload 4, 2) := by decide +kernel
theorem d_Lw_law_1480 : decode code 1480 = .ok (.iconst 3, 1) := by decide +kernel
theorem d_Lw_law_1481 : decode code 1481 = .ok (.iadd, 1) := by decide +kernel
theorem d_Lw_law_1482 : decode code 1482 = .ok (.iaload, 1) := by decide +kernel
theorem d_Lw_law_1483 : decode code 1483 = .ok (.invokevirtual 170, 3) := by decide +kernel
theorem d_Lw_law_1486 : decode code 1486 = .ok (.istore 6, 2) := by decide +kernel
theorem d_Lw_law_1488 : decode code 1488 = .ok (.aload_n 2, 1) := by decide +kernel
theorem d_Lw_law_1489 : decode code 1489 = .ok (.invokevirtual 113, 3) := by decide +kernel
theorem d_Lw_law_1492 : decode code 1492 = .ok (.iload 5, 2) := by decide +kernel
theorem d_Lw_law_1494 : decode code 1494 = .ok (.if_icmp .eq 5, 3) := by decide +kernel
theorem d_Lw_law_1497 : decode code 1497 = .ok (.iconst 0, 1) := by decide +kernel
theorem d_Lw_law_1498 : decode code 1498 = .ok (.ireturn, 1) := by decide +kernel
theorem d_Lw_law_1499 : decode code 1499 = .ok (.iload 5, 2) := by decide +kernel
theorem d_Lw_law_1501 : decode code 1501 = .ok (.ifCond .ne 15, 3) := by decide +kernel
theorem d_Lw_law_1504 : decode code 1504 = .ok (.aload_n 3, 1) := by decide +kernel
theorem d_Lw_law_1505 : decode code 1505 = .ok (.iconst 0, 1) := by decide +kernel
theorem d_Lw_law_1506 : decode code 1506 = .ok (.laload, 1) := by decide +kernel
theorem d_Lw_law_1507 : decode code 1507 = .ok (.iload 6, 2) := by decide +kernel
theorem d_Lw_law_1509 : decode code 1509 = .ok (.i2l, 1) := by decide +kernel
theorem d_Lw_law_1510 : decode code 1510 = .ok (.lcmp, 1) := by decide +kernel
theorem d_Lw_law_1511 : decode code 1511 = .ok (.ifCond .eq 5, 3) := by decide +kernel
theorem d_Lw_law_1514 : decode code 1514 = .ok (.iconst 0, 1) := by decide +kernel
theorem d_Lw_law_1515 : decode code 1515 = .ok (.ireturn, 1) := by decide +kernel
theorem d_Lw_law_1516 : decode code 1516 = .ok (.goto 666, 3) := by decide +kernel
theorem d_Lw_law_1519 : decode code 1519 = .ok (.aload_n 1, 1) := by decide +kernel
theorem d_Lw_law_1520 : decode code 1520 = .ok (.aload_n 0, 1) := by decide +kernel
theorem d_Lw_law_1521 : decode code 1521 = .ok (.iload 4, 2) := by decide +kernel
theorem d_Lw_law_1523 : decode code 1523 = .ok (.iconst 1, 1) := by decide +kernel
theorem d_Lw_law_1524 : decode code 1524 = .ok (.iadd, 1) := by decide +kernel
theorem d_Lw_law_1525 : decode code 1525 = .ok (.iaload, 1) := by decide +kernel
theorem d_Lw_law_1526 : decode code 1526 = .ok (.aload_n 0, 1) := by decide +kernel
theorem d_Lw_law_1527 : decode code 1527 = .ok (.iload 4, 2) := by decide +kernel
theorem d_Lw_law_1529 : decode code 1529 = .ok (.iconst 2, 1) := by decide +kernel
theorem d_Lw_law_1530 : decode code 1530 = .ok (.iadd, 1) := by decide +kernel
theorem d_Lw_law_1531 : decode code 1531 = .ok (.iaload, 1) := by decide +kernel
theorem d_Lw_law_1532 : decode code 1532 = .ok (.aload_n 0, 1) := by decide +kernel
theorem d_Lw_law_1533 : decode code 1533 = .ok (.iload 4, 2) := by decide +kernel
theorem d_Lw_law_1535 : decode code 1535 = .ok (.iconst 3, 1) := by decide +kernel
theorem d_Lw_law_1536 : decode code 1536 = .ok (.iadd, 1) := by decide +kernel
theorem d_Lw_law_1537 : decode code 1537 = .ok (.iaload, 1) := by decide +kernel
theorem d_Lw_law_1538 : decode code 1538 = .ok (.aload_n 0, 1) := by decide +kernel
theorem d_Lw_law_1539 : decode code 1539 = .ok (.iload 4, 2) := by decide +kernel
theorem d_Lw_law_1541 : decode code 1541 = .ok (.iconst 4, 1) := by decide +kernel
theorem d_Lw_law_1542 : decode code 1542 = .ok (.iadd, 1) := by decide +kernel
theorem d_Lw_law_1543 : decode code 1543 = .ok (.iaload, 1) := by decide +kernel
theorem d_Lw_law_1544 : decode code 1544 = .ok (.aload_n 3, 1) := by decide +kernel
theorem d_Lw_law_1545 : decode code 1545 = .ok (.invokestatic 171, 3) := by decide +kernel
theorem d_Lw_law_1548 : decode code 1548 = .ok (.istore 5, 2) := by decide +kernel
theorem d_Lw_law_1550 : decode code 1550 = .ok (.aload_n 2, 1) := by decide +kernel
theorem d_Lw_law_1551 : decode code 1551 = .ok (.aload_n 0, 1) := by decide +kernel
theorem d_Lw_law_1552 : decode code 1552 = .ok (.iload 4, 2) := by decide +kernel
theorem d_Lw_law_1554 : decode code 1554 = .ok (.iconst 1, 1) := by decide +kernel
theorem d_Lw_law_1555 : decode code 1555 = .ok (.iadd, 1) := by decide +kernel
theorem d_Lw_law_1556 : decode code 1556 = .ok (.iaload, 1) := by decide +kernel
theorem d_Lw_law_1557 : decode code 1557 = .ok (.aload_n 0, 1) := by decide +kernel
theorem d_Lw_law_1558 : decode code 1558 = .ok (.iload 4, 2) := by decide +kernel
theorem d_Lw_law_1560 : decode code 1560 = .ok (.iconst 2, 1) := by decide +kernel
theorem d_Lw_law_1561 : decode code 1561 = .ok (.iadd, 1) := by decide +kernel
theorem d_Lw_law_1562 : decode code 1562 = .ok (.iaload, 1) := by decide +kernel
theorem d_Lw_law_1563 : decode code 1563 = .ok (.aload_n 0, 1) := by decide +kernel
theorem d_Lw_law_1564 : decode code 1564 = .ok (.iload 4, 2) := by decide +kernel
theorem d_Lw_law_1566 : decode code 1566 = .ok (.iconst 3, 1) := by decide +kernel
theorem d_Lw_law_1567 : decode code 1567 = .ok (.iadd, 1) := by decide +kernel
theorem d_Lw_law_1568 : decode code 1568 = .ok (.iaload, 1) := by decide +kernel
theorem d_Lw_law_1569 : decode code 1569 = .ok (.aload_n 0, 1) := by decide +kernel
theorem d_Lw_law_1570 : decode code 1570 = .ok (.iload 4, 2) := by decide +kernel
theorem d_Lw_law_1572 : decode code 1572 = .ok (.iconst 4, 1) := by decide +kernel
theorem d_Lw_law_1573 : decode code 1573 = .ok (.iadd, 1) := by decide +kernel
theorem d_Lw_law_1574 : decode code 1574 = .ok (.iaload, 1) := by decide +kernel
theorem d_Lw_law_1575 : decode code 1575 = .ok (.invokevirtual 173, 3) := by decide +kernel
theorem d_Lw_law_1578 : decode code 1578 = .ok (.istore 6, 2) := by decide +kernel
theorem d_Lw_law_1580 : decode code 1580 = .ok (.aload_n 2, 1) := by decide +kernel
theorem d_Lw_law_1581 : decode code 1581 = .ok (.invokevirtual 113, 3) := by decide +kernel
theorem d_Lw_law_1584 : decode code 1584 = .ok (.iload 5, 2) := by decide +kernel
theorem d_Lw_law_1586 : decode code 1586 = .ok (.if_icmp .eq 5, 3) := by decide +kernel
theorem d_Lw_law_1589 : decode code 1589 = .ok (.iconst 0, 1) := by decide +kernel
theorem d_Lw_law_1590 : decode code 1590 = .ok (.ireturn, 1) := by decide +kernel
theorem d_Lw_law_1591 : decode code 1591 = .ok (.iload 5, 2) := by decide +kernel
theorem d_Lw_law_1593 : decode code 1593 = .ok (.ifCond .ne 15, 3) := by decide +kernel
theorem d_Lw_law_1596 : decode code 1596 = .ok (.aload_n 3, 1) := by decide +kernel
theorem d_Lw_law_1597 : decode code 1597 = .ok (.iconst 0, 1) := by decide +kernel
theorem d_Lw_law_1598 : decode code 1598 = .ok (.laload, 1) := by decide +kernel
theorem d_Lw_law_1599 : decode code 1599 = .ok (.iload 6, 2) := by decide +kernel
theorem d_Lw_law_1601 : decode code 1601 = .ok (.i2l, 1) := by decide +kernel
theorem d_Lw_law_1602 : decode code 1602 = .ok (.lcmp, 1) := by decide +kernel
theorem d_Lw_law_1603 : decode code 1603 = .ok (.ifCond .eq 5, 3) := by decide +kernel
theorem d_Lw_law_1606 : decode code 1606 = .ok (.iconst 0, 1) := by decide +kernel
theorem d_Lw_law_1607 : decode code 1607 = .ok (.ireturn, 1) := by decide +kernel
theorem d_Lw_law_1608 : decode code 1608 = .ok (.goto 574, 3) := by decide +kernel
theorem d_Lw_law_1611 : decode code 1611 = .ok (.aload_n 1, 1) := by decide +kernel
theorem d_Lw_law_1612 : decode code 1612 = .ok (.aload_n 0, 1) := by decide +kernel
theorem d_Lw_law_1613 : decode code 1613 = .ok (.iload 4, 2) := by decide +kernel
theorem d_Lw_law_1615 : decode code 1615 = .ok (.iconst 1, 1) := by decide +kernel
theorem d_Lw_law_1616 : decode code 1616 = .ok (.iadd, 1) := by decide +kernel
theorem d_Lw_law_1617 : decode code 1617 = .ok (.iaload, 1) := by decide +kernel
theorem d_Lw_law_1618 : decode code 1618 = .ok (.aload_n 0, 1) := by decide +kernel
theorem d_Lw_law_1619 : decode code 1619 = .ok (.iload 4, 2) := by decide +kernel
theorem d_Lw_law_1621 : decode code 1621 = .ok (.iconst 2, 1) := by decide +kernel
theorem d_Lw_law_1622 : decode code 1622 = .ok (.iadd, 1) := by decide +kernel
theorem d_Lw_law_1623 : decode code 1623 = .ok (.iaload, 1) := by decide +kernel
theorem d_Lw_law_1624 : decode code 1624 = .ok (.aload_n 0, 1) := by decide +kernel
theorem d_Lw_law_1625 : decode code 1625 = .ok (.iload 4, 2) := by decide +kernel
theorem d_Lw_law_1627 : decode code 1627 = .ok (.iconst 3, 1) := by decide +kernel
theorem d_Lw_law_1628 : decode code 1628 = .ok (.iadd, 1) := by decide +kernel
theorem d_Lw_law_1629 : decode code 1629 = .ok (.iaload, 1) := by decide +kernel
theorem d_Lw_law_1630 : decode code 1630 = .ok (.aload_n 3, 1) := by decide +kernel
theorem d_Lw_law_1631 : decode code 1631 = .ok (.invokestatic 174, 3) := by decide +kernel
theorem d_Lw_law_1634 : decode code 1634 = .ok (.istore 5, 2) := by decide +kernel
theorem d_Lw_law_1636 : decode code 1636 = .ok (.aload_n 2, 1) := by decide +kernel
theorem d_Lw_law_1637 : decode code 1637 = .ok (.aload_n 0, 1) := by decide +kernel
theorem d_Lw_law_1638 : decode code 1638 = .ok (.iload 4, 2) := by decide +kernel
theorem d_Lw_law_1640 : decode code 1640 = .ok (.iconst 1, 1) := by decide +kernel
theorem d_Lw_law_1641 : decode code 1641 = .ok (.iadd, 1) := by decide +kernel
theorem d_Lw_law_1642 : decode code 1642 = .ok (.iaload, 1) := by decide +kernel
theorem d_Lw_law_1643 : decode code 1643 = .ok (.aload_n 0, 1) := by decide +kernel
theorem d_Lw_law_1644 : decode code 1644 = .ok (.iload 4, 2) := by decide +kernel
theorem d_Lw_law_1646 : decode code 1646 = .ok (.iconst 2, 1) := by decide +kernel
theorem d_Lw_law_1647 : decode code 1647 = .ok (.iadd, 1) := by decide +kernel
theorem d_Lw_law_1648 : decode code 1648 = .ok (.iaload, 1) := by decide +kernel
theorem d_Lw_law_1649 : decode code 1649 = .ok (.aload_n 0, 1) := by decide +kernel
theorem d_Lw_law_1650 : decode code 1650 = .ok (.iload 4, 2) := by decide +kernel
theorem d_Lw_law_1652 : decode code 1652 = .ok (.iconst 3, 1) := by decide +kernel
theorem d_Lw_law_1653 : decode code 1653 = .ok (.iadd, 1) := by decide +kernel
theorem d_Lw_law_1654 : decode code 1654 = .ok (.iaload, 1) := by decide +kernel
theorem d_Lw_law_1655 : decode code 1655 = .ok (.invokevirtual 176, 3) := by decide +kernel
theorem d_Lw_law_1658 : decode code 1658 = .ok (.istore 6, 2) := by decide +kernel
theorem d_Lw_law_1660 : decode code 1660 = .ok (.aload_n 2, 1) := by decide +kernel
theorem d_Lw_law_1661 : decode code 1661 = .ok (.invokevirtual 113, 3) := by decide +kernel
theorem d_Lw_law_1664 : decode code 1664 = .ok (.iload 5, 2) := by decide +kernel
theorem d_Lw_law_1666 : decode code 1666 = .ok (.if_icmp .eq 5, 3) := by decide +kernel
theorem d_Lw_law_1669 : decode code 1669 = .ok (.iconst 0, 1) := by decide +kernel
theorem d_Lw_law_1670 : decode code 1670 = .ok (.ireturn, 1) := by decide +kernel
theorem d_Lw_law_1671 : decode code 1671 = .ok (.iload 5, 2) := by decide +kernel
theorem d_Lw_law_1673 : decode code 1673 = .ok (.ifCond .ne 22, 3) := by decide +kernel
theorem d_Lw_law_1676 : decode code 1676 = .ok (.aload_n 3, 1) := by decide +kernel
theorem d_Lw_law_1677 : decode code 1677 = .ok (.iconst 0, 1) := by decide +kernel
theorem d_Lw_law_1678 : decode code 1678 = .ok (.laload, 1) := by decide +kernel
theorem d_Lw_law_1679 : decode code 1679 = .ok (.iload 6, 2) := by decide +kernel
theorem d_Lw_law_1681 : decode code 1681 = .ok (.ifCond .eq 7, 3) := by decide +kernel
theorem d_Lw_law_1684 : decode code 1684 = .ok (.lconst 1, 1) := by decide +kernel
theorem d_Lw_law_1685 : decode code 1685 = .ok (.goto 4, 3) := by decide +kernel
theorem d_Lw_law_1688 : decode code 1688 = .ok (.lconst 0, 1) := by decide +kernel
theorem d_Lw_law_1689 : decode code 1689 = .ok (.lcmp, 1) := by decide +kernel
theorem d_Lw_law_1690 : decode code 1690 = .ok (.ifCond .eq 5, 3) := by decide +kernel
theorem d_Lw_law_1693 : decode code 1693 = .ok (.iconst 0, 1) := by decide +kernel
theorem d_Lw_law_1694 : decode code 1694 = .ok (.ireturn, 1) := by decide +kernel
theorem d_Lw_law_1695 : decode code 1695 = .ok (.goto 487, 3) := by decide +kernel
theorem d_Lw_law_1698 : decode code 1698 = .ok (.aload_n 1, 1) := by decide +kernel
theorem d_Lw_law_1699 : decode code 1699 = .ok (.aload_n 0, 1) := by decide +kernel
theorem d_Lw_law_1700 : decode code 1700 = .ok (.iload 4, 2) := by decide +kernel
theorem d_Lw_law_1702 : decode code 1702 = .ok (.iconst 1, 1) := by decide +kernel
theorem d_Lw_law_1703 : decode code 1703 = .ok (.iadd, 1) := by decide +kernel
theorem d_Lw_law_1704 : decode code 1704 = .ok (.iaload, 1) := by decide +kernel
theorem d_Lw_law_1705 : decode code 1705 = .ok (.aload_n 0, 1) := by decide +kernel
theorem d_Lw_law_1706 : decode code 1706 = .ok (.iload 4, 2) := by decide +kernel
theorem d_Lw_law_1708 : decode code 1708 = .ok (.iconst 2, 1) := by decide +kernel
theorem d_Lw_law_1709 : decode code 1709 = .ok (.iadd, 1) := by decide +kernel
theorem d_Lw_law_1710 : decode code 1710 = .ok (.iaload, 1) := by decide +kernel
theorem d_Lw_law_1711 : decode code 1711 = .ok (.aload_n 0, 1) := by decide +kernel
theorem d_Lw_law_1712 : decode code 1712 = .ok (.iload 4, 2) := by decide +kernel
theorem d_Lw_law_1714 : decode code 1714 = .ok (.iconst 3, 1) := by decide +kernel
theorem d_Lw_law_1715 : decode code 1715 = .ok (.iadd, 1) := by decide +kernel
theorem d_Lw_law_1716 : decode code 1716 = .ok (.iaload, 1) := by decide +kernel
theorem d_Lw_law_1717 : decode code 1717 = .ok (.aload_n 3, 1) := by decide +kernel
theorem d_Lw_law_1718 : decode code 1718 = .ok (.invokestatic 177, 3) := by decide +kernel
theorem d_Lw_law_1721 : decode code 1721 = .ok (.istore 5, 2) := by decide +kernel
theorem d_Lw_law_1723 : decode code 1723 = .ok (.aload_n 2, 1) := by decide +kernel
theorem d_Lw_law_1724 : decode code 1724 = .ok (.aload_n 0, 1) := by decide +kernel
theorem d_Lw_law_1725 : decode code 1725 = .ok (.iload 4, 2) := by decide +kernel
theorem d_Lw_law_1727 : decode code 1727 = .ok (.iconst 1, 1) := by decide +kernel
theorem d_Lw_law_1728 : decode code 1728 = .ok (.iadd, 1) := by decide +kernel
theorem d_Lw_law_1729 : decode code 1729 = .ok (.iaload, 1) := by decide +kernel
theorem d_Lw_law_1730 : decode code 1730 = .ok (.aload_n 0, 1) := by decide +kernel
theorem d_Lw_law_1731 : decode code 1731 = .ok (.iload 4, 2) := by decide +kernel
theorem d_Lw_law_1733 : decode code 1733 = .ok (.iconst 2, 1) := by decide +kernel
theorem d_Lw_law_1734 : decode code 1734 = .ok (.iadd, 1) := by decide +kernel
theorem d_Lw_law_1735 : decode code 1735 = .ok (.iaload, 1) := by decide +kernel
theorem d_Lw_law_1736 : decode code 1736 = .ok (.aload_n 0, 1) := by decide +kernel
theorem d_Lw_law_1737 : decode code 1737 = .ok (.iload 4, 2) := by decide +kernel
theorem d_Lw_law_1739 : decode code 1739 = .ok (.iconst 3, 1) := by decide +kernel
theorem d_Lw_law_1740 : decode code 1740 = .ok (.iadd, 1) := by decide +kernel
theorem d_Lw_law_1741 : decode code 1741 = .ok (.iaload, 1) := by decide +kernel
theorem d_Lw_law_1742 : decode code 1742 = .ok (.invokevirtual 179, 3) := by decide +kernel
theorem d_Lw_law_1745 : decode code 1745 = .ok (.istore 6, 2) := by decide +kernel
theorem d_Lw_law_1747 : decode code 1747 = .ok (.aload_n 2, 1) := by decide +kernel
theorem d_Lw_law_1748 : decode code 1748 = .ok (.invokevirtual 113, 3) := by decide +kernel
theorem d_Lw_law_1751 : decode code 1751 = .ok (.iload 5, 2) := by decide +kernel
theorem d_Lw_law_1753 : decode code 1753 = .ok (.if_icmp .eq 5, 3) := by decide +kernel
theorem d_Lw_law_1756 : decode code 1756 = .ok (.iconst 0, 1) := by decide +kernel
theorem d_Lw_law_1757 : decode code 1757 = .ok (.ireturn, 1) := by decide +kernel
theorem d_Lw_law_1758 : decode code 1758 = .ok (.iload 5, 2) := by decide +kernel
theorem d_Lw_law_1760 : decode code 1760 = .ok (.ifCond .ne 22, 3) := by decide +kernel
theorem d_Lw_law_1763 : decode code 1763 = .ok (.aload_n 3, 1) := by decide +kernel
theorem d_Lw_law_1764 : decode code 1764 = .ok (.iconst 0, 1) := by decide +kernel
theorem d_Lw_law_1765 : decode code 1765 = .ok (.laload, 1) := by decide +kernel
theorem d_Lw_law_1766 : decode code 1766 = .ok (.iload 6, 2) := by decide +kernel
theorem d_Lw_law_1768 : decode code 1768 = .ok (.ifCond .eq 7, 3) := by decide +kernel
theorem d_Lw_law_1771 : decode code 1771 = .ok (.lconst 1, 1) := by decide +kernel
theorem d_Lw_law_1772 : decode code 1772 = .ok (.goto 4, 3) := by decide +kernel
theorem d_Lw_law_1775 : decode code 1775 = .ok (.lconst 0, 1) := by decide +kernel
theorem d_Lw_law_1776 : decode code 1776 = .ok (.lcmp, 1) := by decide +kernel
theorem d_Lw_law_1777 : decode code 1777 = .ok (.ifCond .eq 5, 3) := by decide +kernel
theorem d_Lw_law_1780 : decode code 1780 = .ok (.iconst 0, 1) := by decide +kernel
theorem d_Lw_law_1781 : decode code 1781 = .ok (.ireturn, 1) := by decide +kernel
theorem d_Lw_law_1782 : decode code 1782 = .ok (.goto 400, 3) := by decide +kernel
theorem d_Lw_law_1785 : decode code 1785 = .ok (.aload_n 1, 1) := by decide +kernel
theorem d_Lw_law_1786 : decode code 1786 = .ok (.aload_n 0, 1) := by decide +kernel
theorem d_Lw_law_1787 : decode code 1787 = .ok (.iload 4, 2) := by decide +kernel
theorem d_Lw_law_1789 : decode code 1789 = .ok (.iconst 1, 1) := by decide +kernel
theorem d_Lw_law_1790 : decode code 1790 = .ok (.iadd, 1) := by decide +kernel
theorem d_Lw_law_1791 : decode code 1791 = .ok (.iaload, 1) := by decide +kernel
theorem d_Lw_law_1792 : decode code 1792 = .ok (.aload_n 0, 1) := by decide +kernel
theorem d_Lw_law_1793 : decode code 1793 = .ok (.iload 4, 2) := by decide +kernel
theorem d_Lw_law_1795 : decode code 1795 = .ok (.iconst 2, 1) := by decide +kernel
theorem d_Lw_law_1796 : decode code 1796 = .ok (.iadd, 1) := by decide +kernel
theorem d_Lw_law_1797 : decode code 1797 = .ok (.iaload, 1) := by decide +kernel
theorem d_Lw_law_1798 : decode code 1798 = .ok (.aload_n 0, 1) := by decide +kernel
theorem d_Lw_law_1799 : decode code 1799 = .ok (.iload 4, 2) := by decide +kernel
theorem d_Lw_law_1801 : decode code 1801 = .ok (.iconst 3, 1) := by decide +kernel
theorem d_Lw_law_1802 : decode code 1802 = .ok (.iadd, 1) := by decide +kernel
theorem d_Lw_law_1803 : decode code 1803 = .ok (.iaload, 1) := by decide +kernel
theorem d_Lw_law_1804 : decode code 1804 = .ok (.aload_n 3, 1) := by decide +kernel
theorem d_Lw_law_1805 : decode code 1805 = .ok (.invokestatic 180, 3) := by decide +kernel
theorem d_Lw_law_1808 : decode code 1808 = .ok (.istore 5, 2) := by decide +kernel
theorem d_Lw_law_1810 : decode code 1810 = .ok (.aload_n 2, 1) := by decide +kernel
theorem d_Lw_law_1811 : decode code 1811 = .ok (.aload_n 0, 1) := by decide +kernel
theorem d_Lw_law_1812 : decode code 1812 = .ok (.iload 4, 2) := by decide +kernel
theorem d_Lw_law_1814 : decode code 1814 = .ok (.iconst 1, 1) := by decide +kernel
theorem d_Lw_law_1815 : decode code 1815 = .ok (.iadd, 1) := by decide +kernel
theorem d_Lw_law_1816 : decode code 1816 = .ok (.iaload, 1) := by decide +kernel
theorem d_Lw_law_1817 : decode code 1817 = .ok (.aload_n 0, 1) := by decide +kernel
theorem d_Lw_law_1818 : decode code 1818 = .ok (.iload 4, 2) := by decide +kernel
theorem d_Lw_law_1820 : decode code 1820 = .ok (.iconst 2, 1) := by decide +kernel
theorem d_Lw_law_1821 : decode code 1821 = .ok (.iadd, 1) := by decide +kernel
theorem d_Lw_law_1822 : decode code 1822 = .ok (.iaload, 1) := by decide +kernel
theorem d_Lw_law_1823 : decode code 1823 = .ok (.aload_n 0, 1) := by decide +kernel
theorem d_Lw_law_1824 : decode code 1824 = .ok (.iload 4, 2) := by decide +kernel
theorem d_Lw_law_1826 : decode code 1826 = .ok (.iconst 3, 1) := by decide +kernel
theorem d_Lw_law_1827 : decode code 1827 = .ok (.iadd, 1) := by decide +kernel
theorem d_Lw_law_1828 : decode code 1828 = .ok (.iaload, 1) := by decide +kernel
theorem d_Lw_law_1829 : decode code 1829 = .ok (.invokevirtual 182, 3) := by decide +kernel
theorem d_Lw_law_1832 : decode code 1832 = .ok (.istore 6, 2) := by decide +kernel
theorem d_Lw_law_1834 : decode code 1834 = .ok (.aload_n 2, 1) := by decide +kernel
theorem d_Lw_law_1835 : decode code 1835 = .ok (.invokevirtual 113, 3) := by decide +kernel
theorem d_Lw_law_1838 : decode code 1838 = .ok (.iload 5, 2) := by decide +kernel
theorem d_Lw_law_1840 : decode code 1840 = .ok (.if_icmp .eq 5, 3) := by decide +kernel
theorem d_Lw_law_1843 : decode code 1843 = .ok (.iconst 0, 1) := by decide +kernel
theorem d_Lw_law_1844 : decode code 1844 = .ok (.ireturn, 1) := by decide +kernel
theorem d_Lw_law_1845 : decode code 1845 = .ok (.iload 5, 2) := by decide +kernel
theorem d_Lw_law_1847 : decode code 1847 = .ok (.ifCond .ne 15, 3) := by decide +kernel
theorem d_Lw_law_1850 : decode code 1850 = .ok (.aload_n 3, 1) := by decide +kernel
theorem d_Lw_law_1851 : decode code 1851 = .ok (.iconst 0, 1) := by decide +kernel
theorem d_Lw_law_1852 : decode code 1852 = .ok (.laload, 1) := by decide +kernel
theorem d_Lw_law_1853 : decode code 1853 = .ok (.iload 6, 2) := by decide +kernel
theorem d_Lw_law_1855 : decode code 1855 = .ok (.i2l, 1) := by decide +kernel
theorem d_Lw_law_1856 : decode code 1856 = .ok (.lcmp, 1) := by decide +kernel
theorem d_Lw_law_1857 : decode code 1857 = .ok (.ifCond .eq 5, 3) := by decide +kernel
theorem d_Lw_law_1860 : decode code 1860 = .ok (.iconst 0, 1) := by decide +kernel
theorem d_Lw_law_1861 : decode code 1861 = .ok (.ireturn, 1) := by decide +kernel
theorem d_Lw_law_1862 : decode code 1862 = .ok (.goto 320, 3) := by decide +kernel
theorem d_Lw_law_1865 : decode code 1865 = .ok (.aload_n 1, 1) := by decide +kernel
theorem d_Lw_law_1866 : decode code 1866 = .ok (.aload_n 0, 1) := by decide +kernel
theorem d_Lw_law_1867 : decode code 1867 = .ok (.iload 4, 2) := by decide +kernel
theorem d_Lw_law_1869 : decode code 1869 = .ok (.iconst 1, 1) := by decide +kernel
theorem d_Lw_law_1870 : decode code 1870 = .ok (.iadd, 1) := by decide +kernel
theorem d_Lw_law_1871 : decode code 1871 = .ok (.iaload, 1) := by decide +kernel
theorem d_Lw_law_1872 : decode code 1872 = .ok (.aload_n 0, 1) := by decide +kernel
theorem d_Lw_law_1873 : decode code 1873 = .ok (.iload 4, 2) := by decide +kernel
theorem d_Lw_law_1875 : decode code 1875 = .ok (.iconst 2, 1) := by decide +kernel
theorem d_Lw_law_1876 : decode code 1876 = .ok (.iadd, 1) := by decide +kernel
theorem d_Lw_law_1877 : decode code 1877 = .ok (.iaload, 1) := by decide +kernel
theorem d_Lw_law_1878 : decode code 1878 = .ok (.aload_n 3, 1) := by decide +kernel
theorem d_Lw_law_1879 : decode code 1879 = .ok (.invokestatic 183, 3) := by decide +kernel
theorem d_Lw_law_1882 : decode code 1882 = .ok (.istore 5, 2) := by decide +kernel
theorem d_Lw_law_1884 : decode code 1884 = .ok (.aload_n 2, 1) := by decide +kernel
theorem d_Lw_law_1885 : decode code 1885 = .ok (.aload_n 0, 1) := by decide +kernel
theorem d_Lw_law_1886 : decode code 1886 = .ok (.iload 4, 2) := by decide +kernel
theorem d_Lw_law_1888 : decode code 1888 = .ok (.iconst 1, 1) := by decide +kernel
theorem d_Lw_law_1889 : decode code 1889 = .ok (.iadd, 1) := by decide +kernel
theorem d_Lw_law_1890 : decode code 1890 = .ok (.iaload, 1) := by decide +kernel
theorem d_Lw_law_1891 : decode code 1891 = .ok (.aload_n 0, 1) := by decide +kernel
theorem d_Lw_law_1892 : decode code 1892 = .ok (.iload 4, 2) := by decide +kernel
theorem d_Lw_law_1894 : decode code 1894 = .ok (.iconst 2, 1) := by decide +kernel
theorem d_Lw_law_1895 : decode code 1895 = .ok (.iadd, 1) := by decide +kernel
theorem d_Lw_law_1896 : decode code 1896 = .ok (.iaload, 1) := by decide +kernel
theorem d_Lw_law_1897 : decode code 1897 = .ok (.invokevirtual 185, 3) := by decide +kernel
theorem d_Lw_law_1900 : decode code 1900 = .ok (.istore 6, 2) := by decide +kernel
theorem d_Lw_law_1902 : decode code 1902 = .ok (.aload_n 2, 1) := by decide +kernel
theorem d_Lw_law_1903 : decode code 1903 = .ok (.invokevirtual 113, 3) := by decide +kernel
theorem d_Lw_law_1906 : decode code 1906 = .ok (.iload 5, 2) := by decide +kernel
theorem d_Lw_law_1908 : decode code 1908 = .ok (.if_icmp .eq 5, 3) := by decide +kernel
theorem d_Lw_law_1911 : decode code 1911 = .ok (.iconst 0, 1) := by decide +kernel
theorem d_Lw_law_1912 : decode code 1912 = .ok (.ireturn, 1) := by decide +kernel
theorem d_Lw_law_1913 : decode code 1913 = .ok (.iload 5, 2) := by decide +kernel
theorem d_Lw_law_1915 : decode code 1915 = .ok (.ifCond .ne 15, 3) := by decide +kernel
theorem d_Lw_law_1918 : decode code 1918 = .ok (.aload_n 3, 1) := by decide +kernel
theorem d_Lw_law_1919 : decode code 1919 = .ok (.iconst 0, 1) := by decide +kernel
theorem d_Lw_law_1920 : decode code 1920 = .ok (.laload, 1) := by decide +kernel
theorem d_Lw_law_1921 : decode code 1921 = .ok (.iload 6, 2) := by decide +kernel
theorem d_Lw_law_1923 : decode code 1923 = .ok (.i2l, 1) := by decide +kernel
theorem d_Lw_law_1924 : decode code 1924 = .ok (.lcmp, 1) := by decide +kernel
theorem d_Lw_law_1925 : decode code 1925 = .ok (.ifCond .eq 5, 3) := by decide +kernel
theorem d_Lw_law_1928 : decode code 1928 = .ok (.iconst 0, 1) := by decide +kernel
theorem d_Lw_law_1929 : decode code 1929 = .ok (.ireturn, 1) := by decide +kernel
theorem d_Lw_law_1930 : decode code 1930 = .ok (.goto 252, 3) := by decide +kernel
theorem d_Lw_law_1933 : decode code 1933 = .ok (.aload_n 1, 1) := by decide +kernel
theorem d_Lw_law_1934 : decode code 1934 = .ok (.aload_n 0, 1) := by decide +kernel
theorem d_Lw_law_1935 : decode code 1935 = .ok (.iload 4, 2) := by decide +kernel
theorem d_Lw_law_1937 : decode code 1937 = .ok (.iconst 1, 1) := by decide +kernel
theorem d_Lw_law_1938 : decode code 1938 = .ok (.iadd, 1) := by decide +kernel
theorem d_Lw_law_1939 : decode code 1939 = .ok (.iaload, 1) := by decide +kernel
theorem d_Lw_law_1940 : decode code 1940 = .ok (.aload_n 0, 1) := by decide +kernel
theorem d_Lw_law_1941 : decode code 1941 = .ok (.iload 4, 2) := by decide +kernel
theorem d_Lw_law_1943 : decode code 1943 = .ok (.iconst 2, 1) := by decide +kernel
theorem d_Lw_law_1944 : decode code 1944 = .ok (.iadd, 1) := by decide +kernel
theorem d_Lw_law_1945 : decode code 1945 = .ok (.iaload, 1) := by decide +kernel
theorem d_Lw_law_1946 : decode code 1946 = .ok (.aload_n 3, 1) := by decide +kernel
theorem d_Lw_law_1947 : decode code 1947 = .ok (.invokestatic 186, 3) := by decide +kernel
theorem d_Lw_law_1950 : decode code 1950 = .ok (.istore 5, 2) := by decide +kernel
theorem d_Lw_law_1952 : decode code 1952 = .ok (.aload_n 2, 1) := by decide +kernel
theorem d_Lw_law_1953 : decode code 1953 = .ok (.aload_n 0, 1) := by decide +kernel
theorem d_Lw_law_1954 : decode code 1954 = .ok (.iload 4, 2) := by decide +kernel
theorem d_Lw_law_1956 : decode code 1956 = .ok (.iconst 1, 1) := by decide +kernel
theorem d_Lw_law_1957 : decode code 1957 = .ok (.iadd, 1) := by decide +kernel
theorem d_Lw_law_1958 : decode code 1958 = .ok (.iaload, 1) := by decide +kernel
theorem d_Lw_law_1959 : decode code 1959 = .ok (.aload_n 0, 1) := by decide +kernel
theorem d_Lw_law_1960 : decode code 1960 = .ok (.iload 4, 2) := by decide +kernel
theorem d_Lw_law_1962 : decode code 1962 = .ok (.iconst 2, 1) := by decide +kernel
theorem d_Lw_law_1963 : decode code 1963 = .ok (.iadd, 1) := by decide +kernel
theorem d_Lw_law_1964 : decode code 1964 = .ok (.iaload, 1) := by decide +kernel
theorem d_Lw_law_1965 : decode code 1965 = .ok (.invokevirtual 188, 3) := by decide +kernel
theorem d_Lw_law_1968 : decode code 1968 = .ok (.istore 6, 2) := by decide +kernel
theorem d_Lw_law_1970 : decode code 1970 = .ok (.aload_n 2, 1) := by decide +kernel
theorem d_Lw_law_1971 : decode code 1971 = .ok (.invokevirtual 113, 3) := by decide +kernel
theorem d_Lw_law_1974 : decode code 1974 = .ok (.iload 5, 2) := by decide +kernel
theorem d_Lw_law_1976 : decode code 1976 = .ok (.if_icmp .eq 5, 3) := by decide +kernel
theorem d_Lw_law_1979 : decode code 1979 = .ok (.iconst 0, 1) := by decide +kernel
theorem d_Lw_law_1980 : decode code 1980 = .ok (.ireturn, 1) := by decide +kernel
theorem d_Lw_law_1981 : decode code 1981 = .ok (.iload 5, 2) := by decide +kernel
theorem d_Lw_law_1983 : decode code 1983 = .ok (.ifCond .ne 15, 3) := by decide +kernel
theorem d_Lw_law_1986 : decode code 1986 = .ok (.aload_n 3, 1) := by decide +kernel
theorem d_Lw_law_1987 : decode code 1987 = .ok (.iconst 0, 1) := by decide +kernel
theorem d_Lw_law_1988 : decode code 1988 = .ok (.laload, 1) := by decide +kernel
theorem d_Lw_law_1989 : decode code 1989 = .ok (.iload 6, 2) := by decide +kernel
theorem d_Lw_law_1991 : decode code 1991 = .ok (.i2l, 1) := by decide +kernel
theorem d_Lw_law_1992 : decode code 1992 = .ok (.lcmp, 1) := by decide +kernel
theorem d_Lw_law_1993 : decode code 1993 = .ok (.ifCond .eq 5, 3) := by decide +kernel
theorem d_Lw_law_1996 : decode code 1996 = .ok (.iconst 0, 1) := by decide +kernel
theorem d_Lw_law_1997 : decode code 1997 = .ok (.ireturn, 1) := by decide +kernel
theorem d_Lw_law_1998 : decode code 1998 = .ok (.goto 184, 3) := by decide +kernel
theorem d_Lw_law_2001 : decode code 2001 = .ok (.aload_n 1, 1) := by decide +kernel
theorem d_Lw_law_2002 : decode code 2002 = .ok (.aload_n 0, 1) := by decide +kernel
theorem d_Lw_law_2003 : decode code 2003 = .ok (.iload 4, 2) := by decide +kernel
theorem d_Lw_law_2005 : decode code 2005 = .ok (.iconst 1, 1) := by decide +kernel
theorem d_Lw_law_2006 : decode code 2006 = .ok (.iadd, 1) := by decide +kernel
theorem d_Lw_law_2007 : decode code 2007 = .ok (.iaload, 1) := by decide +kernel
theorem d_Lw_law_2008 : decode code 2008 = .ok (.aload_n 3, 1) := by decide +kernel
theorem d_Lw_law_2009 : decode code 2009 = .ok (.invokestatic 189, 3) := by decide +kernel
theorem d_Lw_law_2012 : decode code 2012 = .ok (.istore 5, 2) := by decide +kernel
theorem d_Lw_law_2014 : decode code 2014 = .ok (.aload_n 2, 1) := by decide +kernel
theorem d_Lw_law_2015 : decode code 2015 = .ok (.aload_n 0, 1) := by decide +kernel
theorem d_Lw_law_2016 : decode code 2016 = .ok (.iload 4, 2) := by decide +kernel
theorem d_Lw_law_2018 : decode code 2018 = .ok (.iconst 1, 1) := by decide +kernel
theorem d_Lw_law_2019 : decode code 2019 = .ok (.iadd, 1) := by decide +kernel
theorem d_Lw_law_2020 : decode code 2020 = .ok (.iaload, 1) := by decide +kernel
theorem d_Lw_law_2021 : decode code 2021 = .ok (.invokevirtual 191, 3) := by decide +kernel
theorem d_Lw_law_2024 : decode code 2024 = .ok (.istore 6, 2) := by decide +kernel
theorem d_Lw_law_2026 : decode code 2026 = .ok (.aload_n 2, 1) := by decide +kernel
theorem d_Lw_law_2027 : decode code 2027 = .ok (.invokevirtual 113, 3) := by decide +kernel
theorem d_Lw_law_2030 : decode code 2030 = .ok (.iload 5, 2) := by decide +kernel
theorem d_Lw_law_2032 : decode code 2032 = .ok (.if_icmp .eq 5, 3) := by decide +kernel
theorem d_Lw_law_2035 : decode code 2035 = .ok (.iconst 0, 1) := by decide +kernel
theorem d_Lw_law_2036 : decode code 2036 = .ok (.ireturn, 1) := by decide +kernel
theorem d_Lw_law_2037 : decode code 2037 = .ok (.iload 5, 2) := by decide +kernel
theorem d_Lw_law_2039 : decode code 2039 = .ok (.ifCond .ne 15, 3) := by decide +kernel
theorem d_Lw_law_2042 : decode code 2042 = .ok (.aload_n 3, 1) := by decide +kernel
theorem d_Lw_law_2043 : decode code 2043 = .ok (.iconst 0, 1) := by decide +kernel
theorem d_Lw_law_2044 : decode code 2044 = .ok (.laload, 1) := by decide +kernel
theorem d_Lw_law_2045 : decode code 2045 = .ok (.iload 6, 2) := by decide +kernel
theorem d_Lw_law_2047 : decode code 2047 = .ok (.i2l, 1) := by decide +kernel
theorem d_Lw_law_2048 : decode code 2048 = .ok (.lcmp, 1) := by decide +kernel
theorem d_Lw_law_2049 : decode code 2049 = .ok (.ifCond .eq 5, 3) := by decide +kernel
theorem d_Lw_law_2052 : decode code 2052 = .ok (.iconst 0, 1) := by decide +kernel
theorem d_Lw_law_2053 : decode code 2053 = .ok (.ireturn, 1) := by decide +kernel
theorem d_Lw_law_2054 : decode code 2054 = .ok (.goto 128, 3) := by decide +kernel
theorem d_Lw_law_2057 : decode code 2057 = .ok (.aload_n 1, 1) := by decide +kernel
theorem d_Lw_law_2058 : decode code 2058 = .ok (.aload_n 0, 1) := by decide +kernel
theorem d_Lw_law_2059 : decode code 2059 = .ok (.iload 4, 2) := by decide +kernel
theorem d_Lw_law_2061 : decode code 2061 = .ok (.iconst 1, 1) := by decide +kernel
theorem d_Lw_law_2062 : decode code 2062 = .ok (.iadd, 1) := by decide +kernel
theorem d_Lw_law_2063 : decode code 2063 = .ok (.iaload, 1) := by decide +kernel
theorem d_Lw_law_2064 : decode code 2064 = .ok (.aload_n 3, 1) := by decide +kernel
theorem d_Lw_law_2065 : decode code 2065 = .ok (.invokestatic 192, 3) := by decide +kernel
theorem d_Lw_law_2068 : decode code 2068 = .ok (.istore 5, 2) := by decide +kernel
theorem d_Lw_law_2070 : decode code 2070 = .ok (.aload_n 2, 1) := by decide +kernel
theorem d_Lw_law_2071 : decode code 2071 = .ok (.aload_n 0, 1) := by decide +kernel
theorem d_Lw_law_2072 : decode code 2072 = .ok (.iload 4, 2) := by decide +kernel
theorem d_Lw_law_2074 : decode code 2074 = .ok (.iconst 1, 1) := by decide +kernel
theorem d_Lw_law_2075 : decode code 2075 = .ok (.iadd, 1) := by decide +kernel
theorem d_Lw_law_2076 : decode code 2076 = .ok (.iaload, 1) := by decide +kernel
theorem d_Lw_law_2077 : decode code 2077 = .ok (.invokevirtual 194, 3) := by decide +kernel
theorem d_Lw_law_2080 : decode code 2080 = .ok (.istore 6, 2) := by decide +kernel
theorem d_Lw_law_2082 : decode code 2082 = .ok (.aload_n 2, 1) := by decide +kernel
theorem d_Lw_law_2083 : decode code 2083 = .ok (.invokevirtual 113, 3) := by decide +kernel
theorem d_Lw_law_2086 : decode code 2086 = .ok (.iload 5, 2) := by decide +kernel
theorem d_Lw_law_2088 : decode code 2088 = .ok (.if_icmp .eq 5, 3) := by decide +kernel
theorem d_Lw_law_2091 : decode code 2091 = .ok (.iconst 0, 1) := by decide +kernel
theorem d_Lw_law_2092 : decode code 2092 = .ok (.ireturn, 1) := by decide +kernel
theorem d_Lw_law_2093 : decode code 2093 = .ok (.iload 5, 2) := by decide +kernel
theorem d_Lw_law_2095 : decode code 2095 = .ok (.ifCond .ne 15, 3) := by decide +kernel
theorem d_Lw_law_2098 : decode code 2098 = .ok (.aload_n 3, 1) := by decide +kernel
theorem d_Lw_law_2099 : decode code 2099 = .ok (.iconst 0, 1) := by decide +kernel
theorem d_Lw_law_2100 : decode code 2100 = .ok (.laload, 1) := by decide +kernel
theorem d_Lw_law_2101 : decode code 2101 = .ok (.iload 6, 2) := by decide +kernel
theorem d_Lw_law_2103 : decode code 2103 = .ok (.i2l, 1) := by decide +kernel
theorem d_Lw_law_2104 : decode code 2104 = .ok (.lcmp, 1) := by decide +kernel
theorem d_Lw_law_2105 : decode code 2105 = .ok (.ifCond .eq 5, 3) := by decide +kernel
theorem d_Lw_law_2108 : decode code 2108 = .ok (.iconst 0, 1) := by decide +kernel
theorem d_Lw_law_2109 : decode code 2109 = .ok (.ireturn, 1) := by decide +kernel
theorem d_Lw_law_2110 : decode code 2110 = .ok (.goto 72, 3) := by decide +kernel
theorem d_Lw_law_2113 : decode code 2113 = .ok (.aload_n 1, 1) := by decide +kernel
theorem d_Lw_law_2114 : decode code 2114 = .ok (.invokevirtual 195, 3) := by decide +kernel
theorem d_Lw_law_2117 : decode code 2117 = .ok (.aload_n 2, 1) := by decide +kernel
theorem d_Lw_law_2118 : decode code 2118 = .ok (.invokevirtual 198, 3) := by decide +kernel
theorem d_Lw_law_2121 : decode code 2121 = .ok (.if_icmp .eq 61, 3) := by decide +kernel
theorem d_Lw_law_2124 : decode code 2124 = .ok (.iconst 0, 1) := by decide +kernel
theorem d_Lw_law_2125 : decode code 2125 = .ok (.ireturn, 1) := by decide +kernel
theorem d_Lw_law_2126 : decode code 2126 = .ok (.aload_n 1, 1) := by decide +kernel
theorem d_Lw_law_2127 : decode code 2127 = .ok (.aload_n 0, 1) := by decide +kernel
theorem d_Lw_law_2128 : decode code 2128 = .ok (.iload 4, 2) := by decide +kernel
theorem d_Lw_law_2130 : decode code 2130 = .ok (.iconst 1, 1) := by decide +kernel
theorem d_Lw_law_2131 : decode code 2131 = .ok (.iadd, 1) := by decide +kernel
theorem d_Lw_law_2132 : decode code 2132 = .ok (.iaload, 1) := by decide +kernel
theorem d_Lw_law_2133 : decode code 2133 = .ok (.aload_n 3, 1) := by decide +kernel
theorem d_Lw_law_2134 : decode code 2134 = .ok (.invokestatic 199, 3) := by decide +kernel
theorem d_Lw_law_2137 : decode code 2137 = .ok (.istore 5, 2) := by decide +kernel
theorem d_Lw_law_2139 : decode code 2139 = .ok (.aload_n 2, 1) := by decide +kernel
theorem d_Lw_law_2140 : decode code 2140 = .ok (.aload_n 0, 1) := by decide +kernel
theorem d_Lw_law_2141 : decode code 2141 = .ok (.iload 4, 2) := by decide +kernel
theorem d_Lw_law_2143 : decode code 2143 = .ok (.iconst 1, 1) := by decide +kernel
theorem d_Lw_law_2144 : decode code 2144 = .ok (.iadd, 1) := by decide +kernel
theorem d_Lw_law_2145 : decode code 2145 = .ok (.iaload, 1) := by decide +kernel
theorem d_Lw_law_2146 : decode code 2146 = .ok (.invokevirtual 201, 3) := by decide +kernel
theorem d_Lw_law_2149 : decode code 2149 = .ok (.istore 6, 2) := by decide +kernel
theorem d_Lw_law_2151 : decode code 2151 = .ok (.aload_n 2, 1) := by decide +kernel
theorem d_Lw_law_2152 : decode code 2152 = .ok (.invokevirtual 113, 3) := by decide +kernel
theorem d_Lw_law_2155 : decode code 2155 = .ok (.iload 5, 2) := by decide +kernel
theorem d_Lw_law_2157 : decode code 2157 = .ok (.if_icmp .eq 5, 3) := by decide +kernel
theorem d_Lw_law_2160 : decode code 2160 = .ok (.iconst 0, 1) := by decide +kernel
theorem d_Lw_law_2161 : decode code 2161 = .ok (.ireturn, 1) := by decide +kernel
theorem d_Lw_law_2162 : decode code 2162 = .ok (.iload 5, 2) := by decide +kernel
theorem d_Lw_law_2164 : decode code 2164 = .ok (.ifCond .ne 15, 3) := by decide +kernel
theorem d_Lw_law_2167 : decode code 2167 = .ok (.aload_n 3, 1) := by decide +kernel
theorem d_Lw_law_2168 : decode code 2168 = .ok (.iconst 0, 1) := by decide +kernel
theorem d_Lw_law_2169 : decode code 2169 = .ok (.laload, 1) := by decide +kernel
theorem d_Lw_law_2170 : decode code 2170 = .ok (.iload 6, 2) := by decide +kernel
theorem d_Lw_law_2172 : decode code 2172 = .ok (.i2l, 1) := by decide +kernel
theorem d_Lw_law_2173 : decode code 2173 = .ok (.lcmp, 1) := by decide +kernel
theorem d_Lw_law_2174 : decode code 2174 = .ok (.ifCond .eq 5, 3) := by decide +kernel
theorem d_Lw_law_2177 : decode code 2177 = .ok (.iconst 0, 1) := by decide +kernel
theorem d_Lw_law_2178 : decode code 2178 = .ok (.ireturn, 1) := by decide +kernel
theorem d_Lw_law_2179 : decode code 2179 = .ok (.goto 3, 3) := by decide +kernel
theorem d_Lw_law_2182 : decode code 2182 = .ok (.iinc 4 5, 3) := by decide +kernel
theorem d_Lw_law_2185 : decode code 2185 = .ok (.goto (-2162), 3) := by decide +kernel
theorem d_Lw_law_2188 : decode code 2188 = .ok (.iconst 1, 1) := by decide +kernel
theorem d_Lw_law_2189 : decode code 2189 = .ok (.ireturn, 1) := by decide +kernel
