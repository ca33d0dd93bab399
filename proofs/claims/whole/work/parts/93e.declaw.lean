/-! the law, its bytes -/
theorem dL_law__1216 : decode cL_law_ 1216 = .ok (.lcmp, 1) := by decide +kernel
theorem dL_law__1217 : decode cL_law_ 1217 = .ok (.ifCond .eq 5, 3) := by decide +kernel
theorem dL_law__1222 : decode cL_law_ 1222 = .ok (.goto 1533, 3) := by decide +kernel
theorem dL_law__1225 : decode cL_law_ 1225 = .ok (.aload_n 1, 1) := by decide +kernel
theorem dL_law__1226 : decode cL_law_ 1226 = .ok (.aload_n 0, 1) := by decide +kernel
theorem dL_law__1227 : decode cL_law_ 1227 = .ok (.iload 4, 2) := by decide +kernel
theorem dL_law__1229 : decode cL_law_ 1229 = .ok (.iconst 1, 1) := by decide +kernel
theorem dL_law__1230 : decode cL_law_ 1230 = .ok (.iadd, 1) := by decide +kernel
theorem dL_law__1231 : decode cL_law_ 1231 = .ok (.iaload, 1) := by decide +kernel
theorem dL_law__1232 : decode cL_law_ 1232 = .ok (.aload_n 0, 1) := by decide +kernel
theorem dL_law__1233 : decode cL_law_ 1233 = .ok (.iload 4, 2) := by decide +kernel
theorem dL_law__1235 : decode cL_law_ 1235 = .ok (.iconst 2, 1) := by decide +kernel
theorem dL_law__1236 : decode cL_law_ 1236 = .ok (.iadd, 1) := by decide +kernel
theorem dL_law__1237 : decode cL_law_ 1237 = .ok (.iaload, 1) := by decide +kernel
theorem dL_law__1238 : decode cL_law_ 1238 = .ok (.aload_n 3, 1) := by decide +kernel
theorem dL_law__1239 : decode cL_law_ 1239 = .ok (.invokestatic 191, 3) := by decide +kernel
theorem dL_law__1242 : decode cL_law_ 1242 = .ok (.istore 5, 2) := by decide +kernel
theorem dL_law__1244 : decode cL_law_ 1244 = .ok (.aload_n 2, 1) := by decide +kernel
theorem dL_law__1245 : decode cL_law_ 1245 = .ok (.aload_n 0, 1) := by decide +kernel
theorem dL_law__1246 : decode cL_law_ 1246 = .ok (.iload 4, 2) := by decide +kernel
theorem dL_law__1248 : decode cL_law_ 1248 = .ok (.iconst 1, 1) := by decide +kernel
theorem dL_law__1249 : decode cL_law_ 1249 = .ok (.iadd, 1) := by decide +kernel
theorem dL_law__1250 : decode cL_law_ 1250 = .ok (.iaload, 1) := by decide +kernel
theorem dL_law__1251 : decode cL_law_ 1251 = .ok (.aload_n 0, 1) := by decide +kernel
theorem dL_law__1252 : decode cL_law_ 1252 = .ok (.iload 4, 2) := by decide +kernel
theorem dL_law__1254 : decode cL_law_ 1254 = .ok (.iconst 2, 1) := by decide +kernel
theorem dL_law__1255 : decode cL_law_ 1255 = .ok (.iadd, 1) := by decide +kernel
theorem dL_law__1256 : decode cL_law_ 1256 = .ok (.iaload, 1) := by decide +kernel
theorem dL_law__1257 : decode cL_law_ 1257 = .ok (.invokevirtual 193, 3) := by decide +kernel
theorem dL_law__1260 : decode cL_law_ 1260 = .ok (.istore 6, 2) := by decide +kernel
theorem dL_law__1262 : decode cL_law_ 1262 = .ok (.aload_n 2, 1) := by decide +kernel
theorem dL_law__1263 : decode cL_law_ 1263 = .ok (.invokevirtual 136, 3) := by decide +kernel
theorem dL_law__1266 : decode cL_law_ 1266 = .ok (.iload 5, 2) := by decide +kernel
theorem dL_law__1268 : decode cL_law_ 1268 = .ok (.if_icmp .eq 5, 3) := by decide +kernel
theorem dL_law__1273 : decode cL_law_ 1273 = .ok (.iload 5, 2) := by decide +kernel
theorem dL_law__1275 : decode cL_law_ 1275 = .ok (.ifCond .ne 15, 3) := by decide +kernel
theorem dL_law__1278 : decode cL_law_ 1278 = .ok (.aload_n 3, 1) := by decide +kernel
theorem dL_law__1279 : decode cL_law_ 1279 = .ok (.iconst 0, 1) := by decide +kernel
theorem dL_law__1280 : decode cL_law_ 1280 = .ok (.laload, 1) := by decide +kernel
theorem dL_law__1281 : decode cL_law_ 1281 = .ok (.iload 6, 2) := by decide +kernel
theorem dL_law__1283 : decode cL_law_ 1283 = .ok (.i2l, 1) := by decide +kernel
theorem dL_law__1284 : decode cL_law_ 1284 = .ok (.lcmp, 1) := by decide +kernel
theorem dL_law__1285 : decode cL_law_ 1285 = .ok (.ifCond .eq 5, 3) := by decide +kernel
theorem dL_law__1290 : decode cL_law_ 1290 = .ok (.goto 1465, 3) := by decide +kernel
theorem dL_law__1293 : decode cL_law_ 1293 = .ok (.aload_n 1, 1) := by decide +kernel
theorem dL_law__1294 : decode cL_law_ 1294 = .ok (.aload_n 0, 1) := by decide +kernel
theorem dL_law__1295 : decode cL_law_ 1295 = .ok (.iload 4, 2) := by decide +kernel
theorem dL_law__1297 : decode cL_law_ 1297 = .ok (.iconst 1, 1) := by decide +kernel
theorem dL_law__1298 : decode cL_law_ 1298 = .ok (.iadd, 1) := by decide +kernel
theorem dL_law__1299 : decode cL_law_ 1299 = .ok (.iaload, 1) := by decide +kernel
theorem dL_law__1300 : decode cL_law_ 1300 = .ok (.aload_n 3, 1) := by decide +kernel
theorem dL_law__1301 : decode cL_law_ 1301 = .ok (.invokestatic 194, 3) := by decide +kernel
theorem dL_law__1304 : decode cL_law_ 1304 = .ok (.istore 5, 2) := by decide +kernel
theorem dL_law__1306 : decode cL_law_ 1306 = .ok (.aload_n 2, 1) := by decide +kernel
theorem dL_law__1307 : decode cL_law_ 1307 = .ok (.aload_n 0, 1) := by decide +kernel
theorem dL_law__1308 : decode cL_law_ 1308 = .ok (.iload 4, 2) := by decide +kernel
theorem dL_law__1310 : decode cL_law_ 1310 = .ok (.iconst 1, 1) := by decide +kernel
theorem dL_law__1311 : decode cL_law_ 1311 = .ok (.iadd, 1) := by decide +kernel
theorem dL_law__1312 : decode cL_law_ 1312 = .ok (.iaload, 1) := by decide +kernel
theorem dL_law__1313 : decode cL_law_ 1313 = .ok (.invokevirtual 196, 3) := by decide +kernel
theorem dL_law__1316 : decode cL_law_ 1316 = .ok (.istore 6, 2) := by decide +kernel
theorem dL_law__1318 : decode cL_law_ 1318 = .ok (.aload_n 2, 1) := by decide +kernel
theorem dL_law__1319 : decode cL_law_ 1319 = .ok (.invokevirtual 136, 3) := by decide +kernel
theorem dL_law__1322 : decode cL_law_ 1322 = .ok (.iload 5, 2) := by decide +kernel
theorem dL_law__1324 : decode cL_law_ 1324 = .ok (.if_icmp .eq 5, 3) := by decide +kernel
theorem dL_law__1329 : decode cL_law_ 1329 = .ok (.iload 5, 2) := by decide +kernel
theorem dL_law__1331 : decode cL_law_ 1331 = .ok (.ifCond .ne 22, 3) := by decide +kernel
theorem dL_law__1334 : decode cL_law_ 1334 = .ok (.aload_n 3, 1) := by decide +kernel
theorem dL_law__1335 : decode cL_law_ 1335 = .ok (.iconst 0, 1) := by decide +kernel
theorem dL_law__1336 : decode cL_law_ 1336 = .ok (.laload, 1) := by decide +kernel
theorem dL_law__1337 : decode cL_law_ 1337 = .ok (.iload 6, 2) := by decide +kernel
theorem dL_law__1339 : decode cL_law_ 1339 = .ok (.ifCond .eq 7, 3) := by decide +kernel
theorem dL_law__1342 : decode cL_law_ 1342 = .ok (.lconst 1, 1) := by decide +kernel
theorem dL_law__1343 : decode cL_law_ 1343 = .ok (.goto 4, 3) := by decide +kernel
theorem dL_law__1346 : decode cL_law_ 1346 = .ok (.lconst 0, 1) := by decide +kernel
theorem dL_law__1347 : decode cL_law_ 1347 = .ok (.lcmp, 1) := by decide +kernel
theorem dL_law__1348 : decode cL_law_ 1348 = .ok (.ifCond .eq 5, 3) := by decide +kernel
theorem dL_law__1353 : decode cL_law_ 1353 = .ok (.goto 1402, 3) := by decide +kernel
theorem dL_law__1356 : decode cL_law_ 1356 = .ok (.aload_n 1, 1) := by decide +kernel
theorem dL_law__1357 : decode cL_law_ 1357 = .ok (.aload_n 0, 1) := by decide +kernel
theorem dL_law__1358 : decode cL_law_ 1358 = .ok (.iload 4, 2) := by decide +kernel
theorem dL_law__1360 : decode cL_law_ 1360 = .ok (.iconst 1, 1) := by decide +kernel
theorem dL_law__1361 : decode cL_law_ 1361 = .ok (.iadd, 1) := by decide +kernel
theorem dL_law__1362 : decode cL_law_ 1362 = .ok (.iaload, 1) := by decide +kernel
theorem dL_law__1363 : decode cL_law_ 1363 = .ok (.ifCond .eq 7, 3) := by decide +kernel
theorem dL_law__1366 : decode cL_law_ 1366 = .ok (.iconst 1, 1) := by decide +kernel
theorem dL_law__1367 : decode cL_law_ 1367 = .ok (.goto 4, 3) := by decide +kernel
theorem dL_law__1370 : decode cL_law_ 1370 = .ok (.iconst 0, 1) := by decide +kernel
theorem dL_law__1371 : decode cL_law_ 1371 = .ok (.invokevirtual 197, 3) := by decide +kernel
theorem dL_law__1374 : decode cL_law_ 1374 = .ok (.aload_n 2, 1) := by decide +kernel
theorem dL_law__1375 : decode cL_law_ 1375 = .ok (.aload_n 0, 1) := by decide +kernel
theorem dL_law__1376 : decode cL_law_ 1376 = .ok (.iload 4, 2) := by decide +kernel
theorem dL_law__1378 : decode cL_law_ 1378 = .ok (.iconst 1, 1) := by decide +kernel
theorem dL_law__1379 : decode cL_law_ 1379 = .ok (.iadd, 1) := by decide +kernel
theorem dL_law__1380 : decode cL_law_ 1380 = .ok (.iaload, 1) := by decide +kernel
theorem dL_law__1381 : decode cL_law_ 1381 = .ok (.ifCond .eq 7, 3) := by decide +kernel
theorem dL_law__1384 : decode cL_law_ 1384 = .ok (.iconst 1, 1) := by decide +kernel
theorem dL_law__1385 : decode cL_law_ 1385 = .ok (.goto 4, 3) := by decide +kernel
theorem dL_law__1388 : decode cL_law_ 1388 = .ok (.iconst 0, 1) := by decide +kernel
theorem dL_law__1389 : decode cL_law_ 1389 = .ok (.invokevirtual 201, 3) := by decide +kernel
theorem dL_law__1392 : decode cL_law_ 1392 = .ok (.if_icmp .eq 1363, 3) := by decide +kernel
theorem dL_law__1397 : decode cL_law_ 1397 = .ok (.aload_n 1, 1) := by decide +kernel
theorem dL_law__1398 : decode cL_law_ 1398 = .ok (.aload_n 0, 1) := by decide +kernel
theorem dL_law__1399 : decode cL_law_ 1399 = .ok (.iload 4, 2) := by decide +kernel
theorem dL_law__1401 : decode cL_law_ 1401 = .ok (.iconst 1, 1) := by decide +kernel
theorem dL_law__1402 : decode cL_law_ 1402 = .ok (.iadd, 1) := by decide +kernel
theorem dL_law__1403 : decode cL_law_ 1403 = .ok (.iaload, 1) := by decide +kernel
theorem dL_law__1404 : decode cL_law_ 1404 = .ok (.aload_n 0, 1) := by decide +kernel
theorem dL_law__1405 : decode cL_law_ 1405 = .ok (.iload 4, 2) := by decide +kernel
theorem dL_law__1407 : decode cL_law_ 1407 = .ok (.iconst 2, 1) := by decide +kernel
theorem dL_law__1408 : decode cL_law_ 1408 = .ok (.iadd, 1) := by decide +kernel
theorem dL_law__1409 : decode cL_law_ 1409 = .ok (.iaload, 1) := by decide +kernel
theorem dL_law__1410 : decode cL_law_ 1410 = .ok (.aload_n 0, 1) := by decide +kernel
theorem dL_law__1411 : decode cL_law_ 1411 = .ok (.iload 4, 2) := by decide +kernel
theorem dL_law__1413 : decode cL_law_ 1413 = .ok (.iconst 3, 1) := by decide +kernel
theorem dL_law__1414 : decode cL_law_ 1414 = .ok (.iadd, 1) := by decide +kernel
theorem dL_law__1415 : decode cL_law_ 1415 = .ok (.iaload, 1) := by decide +kernel
theorem dL_law__1416 : decode cL_law_ 1416 = .ok (.aload_n 3, 1) := by decide +kernel
theorem dL_law__1417 : decode cL_law_ 1417 = .ok (.invokestatic 202, 3) := by decide +kernel
theorem dL_law__1420 : decode cL_law_ 1420 = .ok (.istore 5, 2) := by decide +kernel
theorem dL_law__1422 : decode cL_law_ 1422 = .ok (.aload_n 2, 1) := by decide +kernel
theorem dL_law__1423 : decode cL_law_ 1423 = .ok (.aload_n 0, 1) := by decide +kernel
theorem dL_law__1424 : decode cL_law_ 1424 = .ok (.iload 4, 2) := by decide +kernel
theorem dL_law__1426 : decode cL_law_ 1426 = .ok (.iconst 1, 1) := by decide +kernel
theorem dL_law__1427 : decode cL_law_ 1427 = .ok (.iadd, 1) := by decide +kernel
theorem dL_law__1428 : decode cL_law_ 1428 = .ok (.iaload, 1) := by decide +kernel
theorem dL_law__1429 : decode cL_law_ 1429 = .ok (.aload_n 0, 1) := by decide +kernel
theorem dL_law__1430 : decode cL_law_ 1430 = .ok (.iload 4, 2) := by decide +kernel
theorem dL_law__1432 : decode cL_law_ 1432 = .ok (.iconst 2, 1) := by decide +kernel
theorem dL_law__1433 : decode cL_law_ 1433 = .ok (.iadd, 1) := by decide +kernel
theorem dL_law__1434 : decode cL_law_ 1434 = .ok (.iaload, 1) := by decide +kernel
theorem dL_law__1435 : decode cL_law_ 1435 = .ok (.aload_n 0, 1) := by decide +kernel
theorem dL_law__1436 : decode cL_law_ 1436 = .ok (.iload 4, 2) := by decide +kernel
theorem dL_law__1438 : decode cL_law_ 1438 = .ok (.iconst 3, 1) := by decide +kernel
theorem dL_law__1439 : decode cL_law_ 1439 = .ok (.iadd, 1) := by decide +kernel
theorem dL_law__1440 : decode cL_law_ 1440 = .ok (.iaload, 1) := by decide +kernel
theorem dL_law__1441 : decode cL_law_ 1441 = .ok (.invokevirtual 204, 3) := by decide +kernel
theorem dL_law__1444 : decode cL_law_ 1444 = .ok (.istore 6, 2) := by decide +kernel
theorem dL_law__1446 : decode cL_law_ 1446 = .ok (.aload_n 2, 1) := by decide +kernel
theorem dL_law__1447 : decode cL_law_ 1447 = .ok (.invokevirtual 136, 3) := by decide +kernel
theorem dL_law__1450 : decode cL_law_ 1450 = .ok (.iload 5, 2) := by decide +kernel
theorem dL_law__1452 : decode cL_law_ 1452 = .ok (.if_icmp .eq 5, 3) := by decide +kernel
theorem dL_law__1457 : decode cL_law_ 1457 = .ok (.iload 5, 2) := by decide +kernel
theorem dL_law__1459 : decode cL_law_ 1459 = .ok (.ifCond .ne 15, 3) := by decide +kernel
theorem dL_law__1462 : decode cL_law_ 1462 = .ok (.aload_n 3, 1) := by decide +kernel
theorem dL_law__1463 : decode cL_law_ 1463 = .ok (.iconst 0, 1) := by decide +kernel
theorem dL_law__1464 : decode cL_law_ 1464 = .ok (.laload, 1) := by decide +kernel
theorem dL_law__1465 : decode cL_law_ 1465 = .ok (.iload 6, 2) := by decide +kernel
theorem dL_law__1467 : decode cL_law_ 1467 = .ok (.i2l, 1) := by decide +kernel
theorem dL_law__1468 : decode cL_law_ 1468 = .ok (.lcmp, 1) := by decide +kernel
