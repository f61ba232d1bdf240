theorem dw_1250 : decode code 1250 = .ok (.iaload, 1) := by decide +kernel
theorem dw_1251 : decode code 1251 = .ok (.aload_n 0, 1) := by decide +kernel
theorem dw_1252 : decode code 1252 = .ok (.iload 4, 2) := by decide +kernel
theorem dw_1254 : decode code 1254 = .ok (.iconst 2, 1) := by decide +kernel
theorem dw_1255 : decode code 1255 = .ok (.iadd, 1) := by decide +kernel
theorem dw_1256 : decode code 1256 = .ok (.iaload, 1) := by decide +kernel
theorem dw_1257 : decode code 1257 = .ok (.aload_n 3, 1) := by decide +kernel
theorem dw_1258 : decode code 1258 = .ok (.invokestatic 162, 3) := by decide +kernel
theorem dw_1261 : decode code 1261 = .ok (.istore 5, 2) := by decide +kernel
theorem dw_1263 : decode code 1263 = .ok (.aload_n 2, 1) := by decide +kernel
theorem dw_1264 : decode code 1264 = .ok (.aload_n 0, 1) := by decide +kernel
theorem dw_1265 : decode code 1265 = .ok (.iload 4, 2) := by decide +kernel
theorem dw_1267 : decode code 1267 = .ok (.iconst 1, 1) := by decide +kernel
theorem dw_1268 : decode code 1268 = .ok (.iadd, 1) := by decide +kernel
theorem dw_1269 : decode code 1269 = .ok (.iaload, 1) := by decide +kernel
theorem dw_1270 : decode code 1270 = .ok (.aload_n 0, 1) := by decide +kernel
theorem dw_1271 : decode code 1271 = .ok (.iload 4, 2) := by decide +kernel
theorem dw_1273 : decode code 1273 = .ok (.iconst 2, 1) := by decide +kernel
theorem dw_1274 : decode code 1274 = .ok (.iadd, 1) := by decide +kernel
theorem dw_1275 : decode code 1275 = .ok (.iaload, 1) := by decide +kernel
theorem dw_1276 : decode code 1276 = .ok (.invokevirtual 164, 3) := by decide +kernel
theorem dw_1279 : decode code 1279 = .ok (.istore 6, 2) := by decide +kernel
theorem dw_1281 : decode code 1281 = .ok (.aload_n 2, 1) := by decide +kernel
theorem dw_1282 : decode code 1282 = .ok (.invokevirtual 106, 3) := by decide +kernel
theorem dw_1285 : decode code 1285 = .ok (.iload 5, 2) := by decide +kernel
theorem dw_1287 : decode code 1287 = .ok (.if_icmp .eq 5, 3) := by decide +kernel
theorem dw_1290 : decode code 1290 = .ok (.iconst 0, 1) := by decide +kernel
theorem dw_1291 : decode code 1291 = .ok (.ireturn, 1) := by decide +kernel
theorem dw_1292 : decode code 1292 = .ok (.iload 5, 2) := by decide +kernel
theorem dw_1294 : decode code 1294 = .ok (.ifCond .ne 22, 3) := by decide +kernel
theorem dw_1297 : decode code 1297 = .ok (.aload_n 3, 1) := by decide +kernel
theorem dw_1298 : decode code 1298 = .ok (.iconst 0, 1) := by decide +kernel
theorem dw_1299 : decode code 1299 = .ok (.laload, 1) := by decide +kernel
theorem dw_1300 : decode code 1300 = .ok (.iload 6, 2) := by decide +kernel
theorem dw_1302 : decode code 1302 = .ok (.ifCond .eq 7, 3) := by decide +kernel
theorem dw_1305 : decode code 1305 = .ok (.lconst 1, 1) := by decide +kernel
theorem dw_1306 : decode code 1306 = .ok (.goto 4, 3) := by decide +kernel
theorem dw_1309 : decode code 1309 = .ok (.lconst 0, 1) := by decide +kernel
theorem dw_1310 : decode code 1310 = .ok (.lcmp, 1) := by decide +kernel
theorem dw_1311 : decode code 1311 = .ok (.ifCond .eq 5, 3) := by decide +kernel
theorem dw_1314 : decode code 1314 = .ok (.iconst 0, 1) := by decide +kernel
theorem dw_1315 : decode code 1315 = .ok (.ireturn, 1) := by decide +kernel
theorem dw_1316 : decode code 1316 = .ok (.goto 451, 3) := by decide +kernel
theorem dw_1319 : decode code 1319 = .ok (.aload_n 1, 1) := by decide +kernel
theorem dw_1320 : decode code 1320 = .ok (.aload_n 0, 1) := by decide +kernel
theorem dw_1321 : decode code 1321 = .ok (.iload 4, 2) := by decide +kernel
theorem dw_1323 : decode code 1323 = .ok (.iconst 1, 1) := by decide +kernel
theorem dw_1324 : decode code 1324 = .ok (.iadd, 1) := by decide +kernel
theorem dw_1325 : decode code 1325 = .ok (.iaload, 1) := by decide +kernel
theorem dw_1326 : decode code 1326 = .ok (.aload_n 0, 1) := by decide +kernel
theorem dw_1327 : decode code 1327 = .ok (.iload 4, 2) := by decide +kernel
theorem dw_1329 : decode code 1329 = .ok (.iconst 2, 1) := by decide +kernel
theorem dw_1330 : decode code 1330 = .ok (.iadd, 1) := by decide +kernel
theorem dw_1331 : decode code 1331 = .ok (.iaload, 1) := by decide +kernel
theorem dw_1332 : decode code 1332 = .ok (.aload_n 3, 1) := by decide +kernel
theorem dw_1333 : decode code 1333 = .ok (.invokestatic 165, 3) := by decide +kernel
theorem dw_1336 : decode code 1336 = .ok (.istore 5, 2) := by decide +kernel
theorem dw_1338 : decode code 1338 = .ok (.aload_n 2, 1) := by decide +kernel
theorem dw_1339 : decode code 1339 = .ok (.aload_n 0, 1) := by decide +kernel
theorem dw_1340 : decode code 1340 = .ok (.iload 4, 2) := by decide +kernel
theorem dw_1342 : decode code 1342 = .ok (.iconst 1, 1) := by decide +kernel
theorem dw_1343 : decode code 1343 = .ok (.iadd, 1) := by decide +kernel
theorem dw_1344 : decode code 1344 = .ok (.iaload, 1) := by decide +kernel
theorem dw_1345 : decode code 1345 = .ok (.aload_n 0, 1) := by decide +kernel
theorem dw_1346 : decode code 1346 = .ok (.iload 4, 2) := by decide +kernel
theorem dw_1348 : decode code 1348 = .ok (.iconst 2, 1) := by decide +kernel
theorem dw_1349 : decode code 1349 = .ok (.iadd, 1) := by decide +kernel
theorem dw_1350 : decode code 1350 = .ok (.iaload, 1) := by decide +kernel
theorem dw_1351 : decode code 1351 = .ok (.invokevirtual 167, 3) := by decide +kernel
theorem dw_1354 : decode code 1354 = .ok (.istore 6, 2) := by decide +kernel
theorem dw_1356 : decode code 1356 = .ok (.aload_n 2, 1) := by decide +kernel
theorem dw_1357 : decode code 1357 = .ok (.invokevirtual 106, 3) := by decide +kernel
theorem dw_1360 : decode code 1360 = .ok (.iload 5, 2) := by decide +kernel
theorem dw_1362 : decode code 1362 = .ok (.if_icmp .eq 5, 3) := by decide +kernel
theorem dw_1365 : decode code 1365 = .ok (.iconst 0, 1) := by decide +kernel
theorem dw_1366 : decode code 1366 = .ok (.ireturn, 1) := by decide +kernel
theorem dw_1367 : decode code 1367 = .ok (.iload 5, 2) := by decide +kernel
theorem dw_1369 : decode code 1369 = .ok (.ifCond .ne 22, 3) := by decide +kernel
theorem dw_1372 : decode code 1372 = .ok (.aload_n 3, 1) := by decide +kernel
theorem dw_1373 : decode code 1373 = .ok (.iconst 0, 1) := by decide +kernel
theorem dw_1374 : decode code 1374 = .ok (.laload, 1) := by decide +kernel
theorem dw_1375 : decode code 1375 = .ok (.iload 6, 2) := by decide +kernel
theorem dw_1377 : decode code 1377 = .ok (.ifCond .eq 7, 3) := by decide +kernel
theorem dw_1380 : decode code 1380 = .ok (.lconst 1, 1) := by decide +kernel
theorem dw_1381 : decode code 1381 = .ok (.goto 4, 3) := by decide +kernel
theorem dw_1384 : decode code 1384 = .ok (.lconst 0, 1) := by decide +kernel
theorem dw_1385 : decode code 1385 = .ok (.lcmp, 1) := by decide +kernel
theorem dw_1386 : decode code 1386 = .ok (.ifCond .eq 5, 3) := by decide +kernel
theorem dw_1389 : decode code 1389 = .ok (.iconst 0, 1) := by decide +kernel
theorem dw_1390 : decode code 1390 = .ok (.ireturn, 1) := by decide +kernel
theorem dw_1391 : decode code 1391 = .ok (.goto 376, 3) := by decide +kernel
theorem dw_1394 : decode code 1394 = .ok (.aload_n 1, 1) := by decide +kernel
theorem dw_1395 : decode code 1395 = .ok (.aload_n 0, 1) := by decide +kernel
theorem dw_1396 : decode code 1396 = .ok (.iload 4, 2) := by decide +kernel
theorem dw_1398 : decode code 1398 = .ok (.iconst 1, 1) := by decide +kernel
theorem dw_1399 : decode code 1399 = .ok (.iadd, 1) := by decide +kernel
theorem dw_1400 : decode code 1400 = .ok (.iaload, 1) := by decide +kernel
theorem dw_1401 : decode code 1401 = .ok (.aload_n 3, 1) := by decide +kernel
theorem dw_1402 : decode code 1402 = .ok (.invokestatic 168, 3) := by decide +kernel
theorem dw_1405 : decode code 1405 = .ok (.istore 5, 2) := by decide +kernel
theorem dw_1407 : decode code 1407 = .ok (.aload_n 2, 1) := by decide +kernel
theorem dw_1408 : decode code 1408 = .ok (.aload_n 0, 1) := by decide +kernel
theorem dw_1409 : decode code 1409 = .ok (.iload 4, 2) := by decide +kernel
theorem dw_1411 : decode code 1411 = .ok (.iconst 1, 1) := by decide +kernel
theorem dw_1412 : decode code 1412 = .ok (.iadd, 1) := by decide +kernel
theorem dw_1413 : decode code 1413 = .ok (.iaload, 1) := by decide +kernel
theorem dw_1414 : decode code 1414 = .ok (.invokevirtual 170, 3) := by decide +kernel
theorem dw_1417 : decode code 1417 = .ok (.istore 6, 2) := by decide +kernel
theorem dw_1419 : decode code 1419 = .ok (.aload_n 2, 1) := by decide +kernel
theorem dw_1420 : decode code 1420 = .ok (.invokevirtual 106, 3) := by decide +kernel
theorem dw_1423 : decode code 1423 = .ok (.iload 5, 2) := by decide +kernel
theorem dw_1425 : decode code 1425 = .ok (.if_icmp .eq 5, 3) := by decide +kernel
theorem dw_1428 : decode code 1428 = .ok (.iconst 0, 1) := by decide +kernel
theorem dw_1429 : decode code 1429 = .ok (.ireturn, 1) := by decide +kernel
theorem dw_1430 : decode code 1430 = .ok (.iload 5, 2) := by decide +kernel
theorem dw_1432 : decode code 1432 = .ok (.ifCond .ne 15, 3) := by decide +kernel
theorem dw_1435 : decode code 1435 = .ok (.aload_n 3, 1) := by decide +kernel
theorem dw_1436 : decode code 1436 = .ok (.iconst 0, 1) := by decide +kernel
theorem dw_1437 : decode code 1437 = .ok (.laload, 1) := by decide +kernel
theorem dw_1438 : decode code 1438 = .ok (.iload 6, 2) := by decide +kernel
theorem dw_1440 : decode code 1440 = .ok (.i2l, 1) := by decide +kernel
theorem dw_1441 : decode code 1441 = .ok (.lcmp, 1) := by decide +kernel
theorem dw_1442 : decode code 1442 = .ok (.ifCond .eq 5, 3) := by decide +kernel
theorem dw_1445 : decode code 1445 = .ok (.iconst 0, 1) := by decide +kernel
theorem dw_1446 : decode code 1446 = .ok (.ireturn, 1) := by decide +kernel
theorem dw_1447 : decode code 1447 = .ok (.goto 320, 3) := by decide +kernel
theorem dw_1450 : decode code 1450 = .ok (.aload_n 1, 1) := by decide +kernel
theorem dw_1451 : decode code 1451 = .ok (.aload_n 0, 1) := by decide +kernel
theorem dw_1452 : decode code 1452 = .ok (.iload 4, 2) := by decide +kernel
theorem dw_1454 : decode code 1454 = .ok (.iconst 1, 1) := by decide +kernel
theorem dw_1455 : decode code 1455 = .ok (.iadd, 1) := by decide +kernel
theorem dw_1456 : decode code 1456 = .ok (.iaload, 1) := by decide +kernel
theorem dw_1457 : decode code 1457 = .ok (.aload_n 3, 1) := by decide +kernel
theorem dw_1458 : decode code 1458 = .ok (.invokestatic 171, 3) := by decide +kernel
theorem dw_1461 : decode code 1461 = .ok (.istore 5, 2) := by decide +kernel
theorem dw_1463 : decode code 1463 = .ok (.aload_n 2, 1) := by decide +kernel
theorem dw_1464 : decode code 1464 = .ok (.aload_n 0, 1) := by decide +kernel
theorem dw_1465 : decode code 1465 = .ok (.iload 4, 2) := by decide +kernel
theorem dw_1467 : decode code 1467 = .ok (.iconst 1, 1) := by decide +kernel
theorem dw_1468 : decode code 1468 = .ok (.iadd, 1) := by decide +kernel
theorem dw_1469 : decode code 1469 = .ok (.iaload, 1) := by decide +kernel
theorem dw_1470 : decode code 1470 = .ok (.invokevirtual 173, 3) := by decide +kernel
theorem dw_1473 : decode code 1473 = .ok (.istore 6, 2) := by decide +kernel
theorem dw_1475 : decode code 1475 = .ok (.aload_n 2, 1) := by decide +kernel
theorem dw_1476 : decode code 1476 = .ok (.invokevirtual 106, 3) := by decide +kernel
theorem dw_1479 : decode code 1479 = .ok (.iload 5, 2) := by decide +kernel
theorem dw_1481 : decode code 1481 = .ok (.if_icmp .eq 5, 3) := by decide +kernel
theorem dw_1484 : decode code 1484 = .ok (.iconst 0, 1) := by decide +kernel
theorem dw_1485 : decode code 1485 = .ok (.ireturn, 1) := by decide +kernel
theorem dw_1486 : decode code 1486 = .ok (.iload 5, 2) := by decide +kernel
theorem dw_1488 : decode code 1488 = .ok (.ifCond .ne 15, 3) := by decide +kernel
theorem dw_1491 : decode code 1491 = .ok (.aload_n 3, 1) := by decide +kernel
theorem dw_1492 : decode code 1492 = .ok (.iconst 0, 1) := by decide +kernel
theorem dw_1493 : decode code 1493 = .ok (.laload, 1) := by decide +kernel
theorem dw_1494 : decode code 1494 = .ok (.iload 6, 2) := by decide +kernel
theorem dw_1496 : decode code 1496 = .ok (.i2l, 1) := by decide +kernel
theorem dw_1497 : decode code 1497 = .ok (.lcmp, 1) := by decide +kernel
theorem dw_1498 : decode code 1498 = .ok (.ifCond .eq 5, 3) := by decide +kernel
theorem dw_1501 : decode code 1501 = .ok (.iconst 0, 1) := by decide +kernel
theorem dw_1502 : decode code 1502 = .ok (.ireturn, 1) := by decide +kernel
theorem dw_1503 : decode code 1503 = .ok (.goto 264, 3) := by decide +kernel
theorem dw_1506 : decode code 1506 = .ok (.aload_n 1, 1) := by decide +kernel
theorem dw_1507 : decode code 1507 = .ok (.aload_n 0, 1) := by decide +kernel
theorem dw_1508 : decode code 1508 = .ok (.iload 4, 2) := by decide +kernel
theorem dw_1510 : decode code 1510 = .ok (.iconst 1, 1) := by decide +kernel
theorem dw_1511 : decode code 1511 = .ok (.iadd, 1) := by decide +kernel
theorem dw_1512 : decode code 1512 = .ok (.iaload, 1) := by decide +kernel
theorem dw_1513 : decode code 1513 = .ok (.aload_n 3, 1) := by decide +kernel
theorem dw_1514 : decode code 1514 = .ok (.invokestatic 174, 3) := by decide +kernel
theorem dw_1517 : decode code 1517 = .ok (.istore 5, 2) := by decide +kernel
theorem dw_1519 : decode code 1519 = .ok (.aload_n 2, 1) := by decide +kernel
theorem dw_1520 : decode code 1520 = .ok (.aload_n 0, 1) := by decide +kernel
theorem dw_1521 : decode code 1521 = .ok (.iload 4, 2) := by decide +kernel
theorem dw_1523 : decode code 1523 = .ok (.iconst 1, 1) := by decide +kernel
theorem dw_1524 : decode code 1524 = .ok (.iadd, 1) := by decide +kernel
theorem dw_1525 : decode code 1525 = .ok (.iaload, 1) := by decide +kernel
theorem dw_1526 : decode code 1526 = .ok (.invokevirtual 176, 3) := by decide +kernel
theorem dw_1529 : decode code 1529 = .ok (.istore 6, 2) := by decide +kernel
theorem dw_1531 : decode code 1531 = .ok (.aload_n 2, 1) := by decide +kernel
theorem dw_1532 : decode code 1532 = .ok (.invokevirtual 106, 3) := by decide +kernel
theorem dw_1535 : decode code 1535 = .ok (.iload 5, 2) := by decide +kernel
theorem dw_1537 : decode code 1537 = .ok (.if_icmp .eq 5, 3) := by decide +kernel
theorem dw_1540 : decode code 1540 = .ok (.iconst 0, 1) := by decide +kernel
theorem dw_1541 : decode code 1541 = .ok (.ireturn, 1) := by decide +kernel
theorem dw_1542 : decode code 1542 = .ok (.iload 5, 2) := by decide +kernel
theorem dw_1544 : decode code 1544 = .ok (.ifCond .ne 15, 3) := by decide +kernel
theorem dw_1547 : decode code 1547 = .ok (.aload_n 3, 1) := by decide +kernel
theorem dw_1548 : decode code 1548 = .ok (.iconst 0, 1) := by decide +kernel
theorem dw_1549 : decode code 1549 = .ok (.laload, 1) := by decide +kernel
