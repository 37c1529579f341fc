theorem dL_law__1302 : decode cL_law_ 1302 = .ok (.iconst 0, 1) := by decide +kernel
theorem dL_law__1303 : decode cL_law_ 1303 = .ok (.laload, 1) := by decide +kernel
theorem dL_law__1304 : decode cL_law_ 1304 = .ok (.iload 6, 2) := by decide +kernel
theorem dL_law__1306 : decode cL_law_ 1306 = .ok (.i2l, 1) := by decide +kernel
theorem dL_law__1307 : decode cL_law_ 1307 = .ok (.lcmp, 1) := by decide +kernel
theorem dL_law__1308 : decode cL_law_ 1308 = .ok (.ifCond .eq 5, 3) := by decide +kernel
theorem dL_law__1311 : decode cL_law_ 1311 = .ok (.iconst 0, 1) := by decide +kernel
theorem dL_law__1312 : decode cL_law_ 1312 = .ok (.ireturn, 1) := by decide +kernel
theorem dL_law__1313 : decode cL_law_ 1313 = .ok (.goto 1494, 3) := by decide +kernel
theorem dL_law__1316 : decode cL_law_ 1316 = .ok (.aload_n 1, 1) := by decide +kernel
theorem dL_law__1317 : decode cL_law_ 1317 = .ok (.aload_n 0, 1) := by decide +kernel
theorem dL_law__1318 : decode cL_law_ 1318 = .ok (.iload 4, 2) := by decide +kernel
theorem dL_law__1320 : decode cL_law_ 1320 = .ok (.iconst 1, 1) := by decide +kernel
theorem dL_law__1321 : decode cL_law_ 1321 = .ok (.iadd, 1) := by decide +kernel
theorem dL_law__1322 : decode cL_law_ 1322 = .ok (.iaload, 1) := by decide +kernel
theorem dL_law__1323 : decode cL_law_ 1323 = .ok (.aload_n 0, 1) := by decide +kernel
theorem dL_law__1324 : decode cL_law_ 1324 = .ok (.iload 4, 2) := by decide +kernel
theorem dL_law__1326 : decode cL_law_ 1326 = .ok (.iconst 2, 1) := by decide +kernel
theorem dL_law__1327 : decode cL_law_ 1327 = .ok (.iadd, 1) := by decide +kernel
theorem dL_law__1328 : decode cL_law_ 1328 = .ok (.iaload, 1) := by decide +kernel
theorem dL_law__1329 : decode cL_law_ 1329 = .ok (.aload_n 0, 1) := by decide +kernel
theorem dL_law__1330 : decode cL_law_ 1330 = .ok (.iload 4, 2) := by decide +kernel
theorem dL_law__1332 : decode cL_law_ 1332 = .ok (.iconst 3, 1) := by decide +kernel
theorem dL_law__1333 : decode cL_law_ 1333 = .ok (.iadd, 1) := by decide +kernel
theorem dL_law__1334 : decode cL_law_ 1334 = .ok (.iaload, 1) := by decide +kernel
theorem dL_law__1335 : decode cL_law_ 1335 = .ok (.aload_n 3, 1) := by decide +kernel
theorem dL_law__1336 : decode cL_law_ 1336 = .ok (.invokestatic 188, 3) := by decide +kernel
theorem dL_law__1339 : decode cL_law_ 1339 = .ok (.istore 5, 2) := by decide +kernel
theorem dL_law__1341 : decode cL_law_ 1341 = .ok (.aload_n 2, 1) := by decide +kernel
theorem dL_law__1342 : decode cL_law_ 1342 = .ok (.aload_n 0, 1) := by decide +kernel
theorem dL_law__1343 : decode cL_law_ 1343 = .ok (.iload 4, 2) := by decide +kernel
theorem dL_law__1345 : decode cL_law_ 1345 = .ok (.iconst 1, 1) := by decide +kernel
theorem dL_law__1346 : decode cL_law_ 1346 = .ok (.iadd, 1) := by decide +kernel
theorem dL_law__1347 : decode cL_law_ 1347 = .ok (.iaload, 1) := by decide +kernel
theorem dL_law__1348 : decode cL_law_ 1348 = .ok (.aload_n 0, 1) := by decide +kernel
theorem dL_law__1349 : decode cL_law_ 1349 = .ok (.iload 4, 2) := by decide +kernel
theorem dL_law__1351 : decode cL_law_ 1351 = .ok (.iconst 2, 1) := by decide +kernel
theorem dL_law__1352 : decode cL_law_ 1352 = .ok (.iadd, 1) := by decide +kernel
theorem dL_law__1353 : decode cL_law_ 1353 = .ok (.iaload, 1) := by decide +kernel
theorem dL_law__1354 : decode cL_law_ 1354 = .ok (.aload_n 0, 1) := by decide +kernel
theorem dL_law__1355 : decode cL_law_ 1355 = .ok (.iload 4, 2) := by decide +kernel
theorem dL_law__1357 : decode cL_law_ 1357 = .ok (.iconst 3, 1) := by decide +kernel
theorem dL_law__1358 : decode cL_law_ 1358 = .ok (.iadd, 1) := by decide +kernel
theorem dL_law__1359 : decode cL_law_ 1359 = .ok (.iaload, 1) := by decide +kernel
theorem dL_law__1360 : decode cL_law_ 1360 = .ok (.invokevirtual 190, 3) := by decide +kernel
theorem dL_law__1363 : decode cL_law_ 1363 = .ok (.istore 6, 2) := by decide +kernel
theorem dL_law__1365 : decode cL_law_ 1365 = .ok (.aload_n 2, 1) := by decide +kernel
theorem dL_law__1366 : decode cL_law_ 1366 = .ok (.invokevirtual 134, 3) := by decide +kernel
theorem dL_law__1369 : decode cL_law_ 1369 = .ok (.iload 5, 2) := by decide +kernel
theorem dL_law__1371 : decode cL_law_ 1371 = .ok (.if_icmp .eq 5, 3) := by decide +kernel
theorem dL_law__1374 : decode cL_law_ 1374 = .ok (.iconst 0, 1) := by decide +kernel
theorem dL_law__1375 : decode cL_law_ 1375 = .ok (.ireturn, 1) := by decide +kernel
theorem dL_law__1376 : decode cL_law_ 1376 = .ok (.iload 5, 2) := by decide +kernel
theorem dL_law__1378 : decode cL_law_ 1378 = .ok (.ifCond .ne 15, 3) := by decide +kernel
theorem dL_law__1381 : decode cL_law_ 1381 = .ok (.aload_n 3, 1) := by decide +kernel
theorem dL_law__1382 : decode cL_law_ 1382 = .ok (.iconst 0, 1) := by decide +kernel
theorem dL_law__1383 : decode cL_law_ 1383 = .ok (.laload, 1) := by decide +kernel
theorem dL_law__1384 : decode cL_law_ 1384 = .ok (.iload 6, 2) := by decide +kernel
theorem dL_law__1386 : decode cL_law_ 1386 = .ok (.i2l, 1) := by decide +kernel
theorem dL_law__1387 : decode cL_law_ 1387 = .ok (.lcmp, 1) := by decide +kernel
theorem dL_law__1388 : decode cL_law_ 1388 = .ok (.ifCond .eq 5, 3) := by decide +kernel
theorem dL_law__1391 : decode cL_law_ 1391 = .ok (.iconst 0, 1) := by decide +kernel
theorem dL_law__1392 : decode cL_law_ 1392 = .ok (.ireturn, 1) := by decide +kernel
theorem dL_law__1393 : decode cL_law_ 1393 = .ok (.goto 1414, 3) := by decide +kernel
theorem dL_law__1396 : decode cL_law_ 1396 = .ok (.aload_n 1, 1) := by decide +kernel
theorem dL_law__1397 : decode cL_law_ 1397 = .ok (.aload_n 0, 1) := by decide +kernel
theorem dL_law__1398 : decode cL_law_ 1398 = .ok (.iload 4, 2) := by decide +kernel
theorem dL_law__1400 : decode cL_law_ 1400 = .ok (.iconst 1, 1) := by decide +kernel
theorem dL_law__1401 : decode cL_law_ 1401 = .ok (.iadd, 1) := by decide +kernel
theorem dL_law__1402 : decode cL_law_ 1402 = .ok (.iaload, 1) := by decide +kernel
theorem dL_law__1403 : decode cL_law_ 1403 = .ok (.aload_n 0, 1) := by decide +kernel
theorem dL_law__1404 : decode cL_law_ 1404 = .ok (.iload 4, 2) := by decide +kernel
theorem dL_law__1406 : decode cL_law_ 1406 = .ok (.iconst 2, 1) := by decide +kernel
theorem dL_law__1407 : decode cL_law_ 1407 = .ok (.iadd, 1) := by decide +kernel
theorem dL_law__1408 : decode cL_law_ 1408 = .ok (.iaload, 1) := by decide +kernel
theorem dL_law__1409 : decode cL_law_ 1409 = .ok (.aload_n 3, 1) := by decide +kernel
theorem dL_law__1410 : decode cL_law_ 1410 = .ok (.invokestatic 191, 3) := by decide +kernel
theorem dL_law__1413 : decode cL_law_ 1413 = .ok (.istore 5, 2) := by decide +kernel
theorem dL_law__1415 : decode cL_law_ 1415 = .ok (.aload_n 2, 1) := by decide +kernel
theorem dL_law__1416 : decode cL_law_ 1416 = .ok (.aload_n 0, 1) := by decide +kernel
theorem dL_law__1417 : decode cL_law_ 1417 = .ok (.iload 4, 2) := by decide +kernel
theorem dL_law__1419 : decode cL_law_ 1419 = .ok (.iconst 1, 1) := by decide +kernel
theorem dL_law__1420 : decode cL_law_ 1420 = .ok (.iadd, 1) := by decide +kernel
theorem dL_law__1421 : decode cL_law_ 1421 = .ok (.iaload, 1) := by decide +kernel
theorem dL_law__1422 : decode cL_law_ 1422 = .ok (.aload_n 0, 1) := by decide +kernel
theorem dL_law__1423 : decode cL_law_ 1423 = .ok (.iload 4, 2) := by decide +kernel
theorem dL_law__1425 : decode cL_law_ 1425 = .ok (.iconst 2, 1) := by decide +kernel
theorem dL_law__1426 : decode cL_law_ 1426 = .ok (.iadd, 1) := by decide +kernel
theorem dL_law__1427 : decode cL_law_ 1427 = .ok (.iaload, 1) := by decide +kernel
theorem dL_law__1428 : decode cL_law_ 1428 = .ok (.invokevirtual 193, 3) := by decide +kernel
theorem dL_law__1431 : decode cL_law_ 1431 = .ok (.istore 6, 2) := by decide +kernel
theorem dL_law__1433 : decode cL_law_ 1433 = .ok (.aload_n 2, 1) := by decide +kernel
theorem dL_law__1434 : decode cL_law_ 1434 = .ok (.invokevirtual 134, 3) := by decide +kernel
theorem dL_law__1437 : decode cL_law_ 1437 = .ok (.iload 5, 2) := by decide +kernel
theorem dL_law__1439 : decode cL_law_ 1439 = .ok (.if_icmp .eq 5, 3) := by decide +kernel
theorem dL_law__1442 : decode cL_law_ 1442 = .ok (.iconst 0, 1) := by decide +kernel
theorem dL_law__1443 : decode cL_law_ 1443 = .ok (.ireturn, 1) := by decide +kernel
theorem dL_law__1444 : decode cL_law_ 1444 = .ok (.iload 5, 2) := by decide +kernel
theorem dL_law__1446 : decode cL_law_ 1446 = .ok (.ifCond .ne 15, 3) := by decide +kernel
theorem dL_law__1449 : decode cL_law_ 1449 = .ok (.aload_n 3, 1) := by decide +kernel
theorem dL_law__1450 : decode cL_law_ 1450 = .ok (.iconst 0, 1) := by decide +kernel
theorem dL_law__1451 : decode cL_law_ 1451 = .ok (.laload, 1) := by decide +kernel
theorem dL_law__1452 : decode cL_law_ 1452 = .ok (.iload 6, 2) := by decide +kernel
theorem dL_law__1454 : decode cL_law_ 1454 = .ok (.i2l, 1) := by decide +kernel
theorem dL_law__1455 : decode cL_law_ 1455 = .ok (.lcmp, 1) := by decide +kernel
theorem dL_law__1456 : decode cL_law_ 1456 = .ok (.ifCond .eq 5, 3) := by decide +kernel
theorem dL_law__1459 : decode cL_law_ 1459 = .ok (.iconst 0, 1) := by decide +kernel
theorem dL_law__1460 : decode cL_law_ 1460 = .ok (.ireturn, 1) := by decide +kernel
theorem dL_law__1461 : decode cL_law_ 1461 = .ok (.goto 1346, 3) := by decide +kernel
theorem dL_law__1464 : decode cL_law_ 1464 = .ok (.aload_n 1, 1) := by decide +kernel
theorem dL_law__1465 : decode cL_law_ 1465 = .ok (.aload_n 0, 1) := by decide +kernel
theorem dL_law__1466 : decode cL_law_ 1466 = .ok (.iload 4, 2) := by decide +kernel
theorem dL_law__1468 : decode cL_law_ 1468 = .ok (.iconst 1, 1) := by decide +kernel
theorem dL_law__1469 : decode cL_law_ 1469 = .ok (.iadd, 1) := by decide +kernel
theorem dL_law__1470 : decode cL_law_ 1470 = .ok (.iaload, 1) := by decide +kernel
theorem dL_law__1471 : decode cL_law_ 1471 = .ok (.aload_n 0, 1) := by decide +kernel
theorem dL_law__1472 : decode cL_law_ 1472 = .ok (.iload 4, 2) := by decide +kernel
theorem dL_law__1474 : decode cL_law_ 1474 = .ok (.iconst 2, 1) := by decide +kernel
theorem dL_law__1475 : decode cL_law_ 1475 = .ok (.iadd, 1) := by decide +kernel
theorem dL_law__1476 : decode cL_law_ 1476 = .ok (.iaload, 1) := by decide +kernel
theorem dL_law__1477 : decode cL_law_ 1477 = .ok (.aload_n 3, 1) := by decide +kernel
theorem dL_law__1478 : decode cL_law_ 1478 = .ok (.invokestatic 194, 3) := by decide +kernel
theorem dL_law__1481 : decode cL_law_ 1481 = .ok (.istore 5, 2) := by decide +kernel
theorem dL_law__1483 : decode cL_law_ 1483 = .ok (.aload_n 2, 1) := by decide +kernel
theorem dL_law__1484 : decode cL_law_ 1484 = .ok (.aload_n 0, 1) := by decide +kernel
theorem dL_law__1485 : decode cL_law_ 1485 = .ok (.iload 4, 2) := by decide +kernel
theorem dL_law__1487 : decode cL_law_ 1487 = .ok (.iconst 1, 1) := by decide +kernel
theorem dL_law__1488 : decode cL_law_ 1488 = .ok (.iadd, 1) := by decide +kernel
theorem dL_law__1489 : decode cL_law_ 1489 = .ok (.iaload, 1) := by decide +kernel
theorem dL_law__1490 : decode cL_law_ 1490 = .ok (.aload_n 0, 1) := by decide +kernel
theorem dL_law__1491 : decode cL_law_ 1491 = .ok (.iload 4, 2) := by decide +kernel
theorem dL_law__1493 : decode cL_law_ 1493 = .ok (.iconst 2, 1) := by decide +kernel
theorem dL_law__1494 : decode cL_law_ 1494 = .ok (.iadd, 1) := by decide +kernel
theorem dL_law__1495 : decode cL_law_ 1495 = .ok (.iaload, 1) := by decide +kernel
theorem dL_law__1496 : decode cL_law_ 1496 = .ok (.invokevirtual 196, 3) := by decide +kernel
theorem dL_law__1499 : decode cL_law_ 1499 = .ok (.istore 6, 2) := by decide +kernel
theorem dL_law__1501 : decode cL_law_ 1501 = .ok (.aload_n 2, 1) := by decide +kernel
theorem dL_law__1502 : decode cL_law_ 1502 = .ok (.invokevirtual 134, 3) := by decide +kernel
theorem dL_law__1505 : decode cL_law_ 1505 = .ok (.iload 5, 2) := by decide +kernel
theorem dL_law__1507 : decode cL_law_ 1507 = .ok (.if_icmp .eq 5, 3) := by decide +kernel
theorem dL_law__1510 : decode cL_law_ 1510 = .ok (.iconst 0, 1) := by decide +kernel
theorem dL_law__1511 : decode cL_law_ 1511 = .ok (.ireturn, 1) := by decide +kernel
theorem dL_law__1512 : decode cL_law_ 1512 = .ok (.iload 5, 2) := by decide +kernel
theorem dL_law__1514 : decode cL_law_ 1514 = .ok (.ifCond .ne 15, 3) := by decide +kernel
theorem dL_law__1517 : decode cL_law_ 1517 = .ok (.aload_n 3, 1) := by decide +kernel
theorem dL_law__1518 : decode cL_law_ 1518 = .ok (.iconst 0, 1) := by decide +kernel
theorem dL_law__1519 : decode cL_law_ 1519 = .ok (.laload, 1) := by decide +kernel
theorem dL_law__1520 : decode cL_law_ 1520 = .ok (.iload 6, 2) := by decide +kernel
theorem dL_law__1522 : decode cL_law_ 1522 = .ok (.i2l, 1) := by decide +kernel
theorem dL_law__1523 : decode cL_law_ 1523 = .ok (.lcmp, 1) := by decide +kernel
theorem dL_law__1524 : decode cL_law_ 1524 = .ok (.ifCond .eq 5, 3) := by decide +kernel
theorem dL_law__1527 : decode cL_law_ 1527 = .ok (.iconst 0, 1) := by decide +kernel
theorem dL_law__1528 : decode cL_law_ 1528 = .ok (.ireturn, 1) := by decide +kernel
theorem dL_law__1529 : decode cL_law_ 1529 = .ok (.goto 1278, 3) := by decide +kernel
theorem dL_law__1532 : decode cL_law_ 1532 = .ok (.aload_n 1, 1) := by decide +kernel
theorem dL_law__1533 : decode cL_law_ 1533 = .ok (.aload_n 0, 1) := by decide +kernel
theorem dL_law__1534 : decode cL_law_ 1534 = .ok (.iload 4, 2) := by decide +kernel
theorem dL_law__1536 : decode cL_law_ 1536 = .ok (.iconst 1, 1) := by decide +kernel
theorem dL_law__1537 : decode cL_law_ 1537 = .ok (.iadd, 1) := by decide +kernel
theorem dL_law__1538 : decode cL_law_ 1538 = .ok (.iaload, 1) := by decide +kernel
theorem dL_law__1539 : decode cL_law_ 1539 = .ok (.aload_n 0, 1) := by decide +kernel
theorem dL_law__1540 : decode cL_law_ 1540 = .ok (.iload 4, 2) := by decide +kernel
theorem dL_law__1542 : decode cL_law_ 1542 = .ok (.iconst 2, 1) := by decide +kernel
theorem dL_law__1543 : decode cL_law_ 1543 = .ok (.iadd, 1) := by decide +kernel
theorem dL_law__1544 : decode cL_law_ 1544 = .ok (.iaload, 1) := by decide +kernel
theorem dL_law__1545 : decode cL_law_ 1545 = .ok (.aload_n 3, 1) := by decide +kernel
theorem dL_law__1546 : decode cL_law_ 1546 = .ok (.invokestatic 197, 3) := by decide +kernel
theorem dL_law__1549 : decode cL_law_ 1549 = .ok (.istore 5, 2) := by decide +kernel
theorem dL_law__1551 : decode cL_law_ 1551 = .ok (.aload_n 2, 1) := by decide +kernel
theorem dL_law__1552 : decode cL_law_ 1552 = .ok (.aload_n 0, 1) := by decide +kernel
theorem dL_law__1553 : decode cL_law_ 1553 = .ok (.iload 4, 2) := by decide +kernel
theorem dL_law__1555 : decode cL_law_ 1555 = .ok (.iconst 1, 1) := by decide +kernel
theorem dL_law__1556 : decode cL_law_ 1556 = .ok (.iadd, 1) := by decide +kernel
theorem dL_law__1557 : decode cL_law_ 1557 = .ok (.iaload, 1) := by decide +kernel
theorem dL_law__1558 : decode cL_law_ 1558 = .ok (.aload_n 0, 1) := by decide +kernel
theorem dL_law__1559 : decode cL_law_ 1559 = .ok (.iload 4, 2) := by decide +kernel
theorem dL_law__1561 : decode cL_law_ 1561 = .ok (.iconst 2, 1) := by decide +kernel
theorem dL_law__1562 : decode cL_law_ 1562 = .ok (.iadd, 1) := by decide +kernel
theorem dL_law__1563 : decode cL_law_ 1563 = .ok (.iaload, 1) := by decide +kernel
theorem dL_law__1564 : decode cL_law_ 1564 = .ok (.invokevirtual 199, 3) := by decide +kernel
theorem dL_law__1567 : decode cL_law_ 1567 = .ok (.istore 6, 2) := by decide +kernel
theorem dL_law__1569 : decode cL_law_ 1569 = .ok (.aload_n 2, 1) := by decide +kernel
theorem dL_law__1570 : decode cL_law_ 1570 = .ok (.invokevirtual 134, 3) := by decide +kernel
theorem dL_law__1573 : decode cL_law_ 1573 = .ok (.iload 5, 2) := by decide +kernel
theorem dL_law__1575 : decode cL_law_ 1575 = .ok (.if_icmp .eq 5, 3) := by decide +kernel
theorem dL_law__1578 : decode cL_law_ 1578 = .ok (.iconst 0, 1) := by decide +kernel
theorem dL_law__1579 : decode cL_law_ 1579 = .ok (.ireturn, 1) := by decide +kernel
theorem dL_law__1580 : decode cL_law_ 1580 = .ok (.iload 5, 2) := by decide +kernel
theorem dL_law__1582 : decode cL_law_ 1582 = .ok (.ifCond .ne 15, 3) := by decide +kernel
theorem dL_law__1585 : decode cL_law_ 1585 = .ok (.aload_n 3, 1) := by decide +kernel
theorem dL_law__1586 : decode cL_law_ 1586 = .ok (.iconst 0, 1) := by decide +kernel
theorem dL_law__1587 : decode cL_law_ 1587 = .ok (.laload, 1) := by decide +kernel
theorem dL_law__1588 : decode cL_law_ 1588 = .ok (.iload 6, 2) := by decide +kernel
theorem dL_law__1590 : decode cL_law_ 1590 = .ok (.i2l, 1) := by decide +kernel
theorem dL_law__1591 : decode cL_law_ 1591 = .ok (.lcmp, 1) := by decide +kernel
theorem dL_law__1592 : decode cL_law_ 1592 = .ok (.ifCond .eq 5, 3) := by decide +kernel
theorem dL_law__1595 : decode cL_law_ 1595 = .ok (.iconst 0, 1) := by decide +kernel
theorem dL_law__1596 : decode cL_law_ 1596 = .ok (.ireturn, 1) := by decide +kernel
theorem dL_law__1597 : decode cL_law_ 1597 = .ok (.goto 1210, 3) := by decide +kernel
theorem dL_law__1600 : decode cL_law_ 1600 = .ok (.aload_n 1, 1) := by decide +kernel
theorem dL_law__1601 : decode cL_law_ 1601 = .ok (.aload_n 0, 1) := by decide +kernel
theorem dL_law__1602 : decode cL_law_ 1602 = .ok (.iload 4, 2) := by decide +kernel
theorem dL_law__1604 : decode cL_law_ 1604 = .ok (.iconst 1, 1) := by decide +kernel
theorem dL_law__1605 : decode cL_law_ 1605 = .ok (.iadd, 1) := by decide +kernel
theorem dL_law__1606 : decode cL_law_ 1606 = .ok (.iaload, 1) := by decide +kernel
theorem dL_law__1607 : decode cL_law_ 1607 = .ok (.aload_n 3, 1) := by decide +kernel
theorem dL_law__1608 : decode cL_law_ 1608 = .ok (.invokestatic 200, 3) := by decide +kernel
theorem dL_law__1611 : decode cL_law_ 1611 = .ok (.istore 5, 2) := by decide +kernel
theorem dL_law__1613 : decode cL_law_ 1613 = .ok (.aload_n 2, 1) := by decide +kernel
theorem dL_law__1614 : decode cL_law_ 1614 = .ok (.aload_n 0, 1) := by decide +kernel
theorem dL_law__1615 : decode cL_law_ 1615 = .ok (.iload 4, 2) := by decide +kernel
theorem dL_law__1617 : decode cL_law_ 1617 = .ok (.iconst 1, 1) := by decide +kernel
theorem dL_law__1618 : decode cL_law_ 1618 = .ok (.iadd, 1) := by decide +kernel
theorem dL_law__1619 : decode cL_law_ 1619 = .ok (.iaload, 1) := by decide +kernel
theorem dL_law__1620 : decode cL_law_ 1620 = .ok (.invokevirtual 202, 3) := by decide +kernel
theorem dL_law__1623 : decode cL_law_ 1623 = .ok (.istore 6, 2) := by decide +kernel
theorem dL_law__1625 : decode cL_law_ 1625 = .ok (.aload_n 2, 1) := by decide +kernel
theorem dL_law__1626 : decode cL_law_ 1626 = .ok (.invokevirtual 134, 3) := by decide +kernel
theorem dL_law__1629 : decode cL_law_ 1629 = .ok (.iload 5, 2) := by decide +kernel
theorem dL_law__1631 : decode cL_law_ 1631 = .ok (.if_icmp .eq 5, 3) := by decide +kernel
theorem dL_law__1634 : decode cL_law_ 1634 = .ok (.iconst 0, 1) := by decide +kernel
theorem dL_law__1635 : decode cL_law_ 1635 = .ok (.ireturn, 1) := by decide +kernel
theorem dL_law__1636 : decode cL_law_ 1636 = .ok (.iload 5, 2) := by decide +kernel
theorem dL_law__1638 : decode cL_law_ 1638 = .ok (.ifCond .ne 15, 3) := by decide +kernel
theorem dL_law__1641 : decode cL_law_ 1641 = .ok (.aload_n 3, 1) := by decide +kernel
theorem dL_law__1642 : decode cL_law_ 1642 = .ok (.iconst 0, 1) := by decide +kernel
theorem dL_law__1643 : decode cL_law_ 1643 = .ok (.laload, 1) := by decide +kernel
theorem dL_law__1644 : decode cL_law_ 1644 = .ok (.iload 6, 2) := by decide +kernel
theorem dL_law__1646 : decode cL_law_ 1646 = .ok (.i2l, 1) := by decide +kernel
theorem dL_law__1647 : decode cL_law_ 1647 = .ok (.lcmp, 1) := by decide +kernel
theorem dL_law__1648 : decode cL_law_ 1648 = .ok (.ifCond .eq 5, 3) := by decide +kernel
theorem dL_law__1651 : decode cL_law_ 1651 = .ok (.iconst 0, 1) := by decide +kernel
theorem dL_law__1652 : decode cL_law_ 1652 = .ok (.ireturn, 1) := by decide +kernel
theorem dL_law__1653 : decode cL_law_ 1653 = .ok (.goto 1154, 3) := by decide +kernel
theorem dL_law__1656 : decode cL_law_ 1656 = .ok (.aload_n 1, 1) := by decide +kernel
theorem dL_law__1657 : decode cL_law_ 1657 = .ok (.aload_n 0, 1) := by decide +kernel
theorem dL_law__1658 : decode cL_law_ 1658 = .ok (.iload 4, 2) := by decide +kernel
theorem dL_law__1660 : decode cL_law_ 1660 = .ok (.iconst 1, 1) := by decide +kernel
theorem dL_law__1661 : decode cL_law_ 1661 = .ok (.iadd, 1) := by decide +kernel
theorem dL_law__1662 : decode cL_law_ 1662 = .ok (.iaload, 1) := by decide +kernel
theorem dL_law__1663 : decode cL_law_ 1663 = .ok (.aload_n 0, 1) := by decide +kernel
theorem dL_law__1664 : decode cL_law_ 1664 = .ok (.iload 4, 2) := by decide +kernel
theorem dL_law__1666 : decode cL_law_ 1666 = .ok (.iconst 2, 1) := by decide +kernel
theorem dL_law__1667 : decode cL_law_ 1667 = .ok (.iadd, 1) := by decide +kernel
theorem dL_law__1668 : decode cL_law_ 1668 = .ok (.iaload, 1) := by decide +kernel
theorem dL_law__1669 : decode cL_law_ 1669 = .ok (.aload_n 3, 1) := by decide +kernel
theorem dL_law__1670 : decode cL_law_ 1670 = .ok (.invokestatic 203, 3) := by decide +kernel
theorem dL_law__1673 : decode cL_law_ 1673 = .ok (.istore 5, 2) := by decide +kernel
theorem dL_law__1675 : decode cL_law_ 1675 = .ok (.aload_n 2, 1) := by decide +kernel
theorem dL_law__1676 : decode cL_law_ 1676 = .ok (.aload_n 0, 1) := by decide +kernel
