theorem d_law_1368 : decode code 1368 = .ok (.iaload, 1) := by decide +kernel
theorem d_law_1369 : decode code 1369 = .ok (.aload_n 0, 1) := by decide +kernel
theorem d_law_1370 : decode code 1370 = .ok (.iload_n 3, 1) := by decide +kernel
theorem d_law_1371 : decode code 1371 = .ok (.iconst 5, 1) := by decide +kernel
theorem d_law_1372 : decode code 1372 = .ok (.iadd, 1) := by decide +kernel
theorem d_law_1373 : decode code 1373 = .ok (.iaload, 1) := by decide +kernel
theorem d_law_1374 : decode code 1374 = .ok (.invokevirtual 158, 3) := by decide +kernel
theorem d_law_1377 : decode code 1377 = .ok (.if_icmp .eq 136, 3) := by decide +kernel
theorem d_law_1382 : decode code 1382 = .ok (.aload_n 1, 1) := by decide +kernel
theorem d_law_1383 : decode code 1383 = .ok (.aload_n 0, 1) := by decide +kernel
theorem d_law_1384 : decode code 1384 = .ok (.iload_n 3, 1) := by decide +kernel
theorem d_law_1385 : decode code 1385 = .ok (.iconst 1, 1) := by decide +kernel
theorem d_law_1386 : decode code 1386 = .ok (.iadd, 1) := by decide +kernel
theorem d_law_1387 : decode code 1387 = .ok (.iaload, 1) := by decide +kernel
theorem d_law_1388 : decode code 1388 = .ok (.invokevirtual 159, 3) := by decide +kernel
theorem d_law_1391 : decode code 1391 = .ok (.aload_n 2, 1) := by decide +kernel
theorem d_law_1392 : decode code 1392 = .ok (.aload_n 0, 1) := by decide +kernel
theorem d_law_1393 : decode code 1393 = .ok (.iload_n 3, 1) := by decide +kernel
theorem d_law_1394 : decode code 1394 = .ok (.iconst 1, 1) := by decide +kernel
theorem d_law_1395 : decode code 1395 = .ok (.iadd, 1) := by decide +kernel
theorem d_law_1396 : decode code 1396 = .ok (.iaload, 1) := by decide +kernel
theorem d_law_1397 : decode code 1397 = .ok (.invokevirtual 162, 3) := by decide +kernel
theorem d_law_1400 : decode code 1400 = .ok (.if_icmp .eq 113, 3) := by decide +kernel
theorem d_law_1405 : decode code 1405 = .ok (.aload_n 1, 1) := by decide +kernel
theorem d_law_1406 : decode code 1406 = .ok (.aload_n 0, 1) := by decide +kernel
theorem d_law_1407 : decode code 1407 = .ok (.iload_n 3, 1) := by decide +kernel
theorem d_law_1408 : decode code 1408 = .ok (.iconst 1, 1) := by decide +kernel
theorem d_law_1409 : decode code 1409 = .ok (.iadd, 1) := by decide +kernel
theorem d_law_1410 : decode code 1410 = .ok (.iaload, 1) := by decide +kernel
theorem d_law_1411 : decode code 1411 = .ok (.invokevirtual 163, 3) := by decide +kernel
theorem d_law_1414 : decode code 1414 = .ok (.aload_n 2, 1) := by decide +kernel
theorem d_law_1415 : decode code 1415 = .ok (.aload_n 0, 1) := by decide +kernel
theorem d_law_1416 : decode code 1416 = .ok (.iload_n 3, 1) := by decide +kernel
theorem d_law_1417 : decode code 1417 = .ok (.iconst 1, 1) := by decide +kernel
theorem d_law_1418 : decode code 1418 = .ok (.iadd, 1) := by decide +kernel
theorem d_law_1419 : decode code 1419 = .ok (.iaload, 1) := by decide +kernel
theorem d_law_1420 : decode code 1420 = .ok (.invokevirtual 166, 3) := by decide +kernel
theorem d_law_1423 : decode code 1423 = .ok (.if_icmp .eq 90, 3) := by decide +kernel
theorem d_law_1428 : decode code 1428 = .ok (.aload_n 1, 1) := by decide +kernel
theorem d_law_1429 : decode code 1429 = .ok (.invokevirtual 167, 3) := by decide +kernel
theorem d_law_1432 : decode code 1432 = .ok (.aload_n 2, 1) := by decide +kernel
theorem d_law_1433 : decode code 1433 = .ok (.invokevirtual 170, 3) := by decide +kernel
theorem d_law_1436 : decode code 1436 = .ok (.if_icmp .eq 77, 3) := by decide +kernel
theorem d_law_1441 : decode code 1441 = .ok (.aload_n 1, 1) := by decide +kernel
theorem d_law_1442 : decode code 1442 = .ok (.invokevirtual 171, 3) := by decide +kernel
theorem d_law_1445 : decode code 1445 = .ok (.aload_n 2, 1) := by decide +kernel
theorem d_law_1446 : decode code 1446 = .ok (.invokevirtual 174, 3) := by decide +kernel
theorem d_law_1449 : decode code 1449 = .ok (.if_icmp .eq 64, 3) := by decide +kernel
theorem d_law_1454 : decode code 1454 = .ok (.aload_n 1, 1) := by decide +kernel
theorem d_law_1455 : decode code 1455 = .ok (.invokevirtual 175, 3) := by decide +kernel
theorem d_law_1458 : decode code 1458 = .ok (.aload_n 2, 1) := by decide +kernel
theorem d_law_1459 : decode code 1459 = .ok (.invokevirtual 178, 3) := by decide +kernel
theorem d_law_1462 : decode code 1462 = .ok (.if_icmp .eq 51, 3) := by decide +kernel
theorem d_law_1467 : decode code 1467 = .ok (.aload_n 1, 1) := by decide +kernel
theorem d_law_1468 : decode code 1468 = .ok (.aload_n 0, 1) := by decide +kernel
theorem d_law_1469 : decode code 1469 = .ok (.iload_n 3, 1) := by decide +kernel
theorem d_law_1470 : decode code 1470 = .ok (.iconst 1, 1) := by decide +kernel
theorem d_law_1471 : decode code 1471 = .ok (.iadd, 1) := by decide +kernel
theorem d_law_1472 : decode code 1472 = .ok (.iaload, 1) := by decide +kernel
theorem d_law_1473 : decode code 1473 = .ok (.invokevirtual 179, 3) := by decide +kernel
theorem d_law_1476 : decode code 1476 = .ok (.aload_n 2, 1) := by decide +kernel
theorem d_law_1477 : decode code 1477 = .ok (.aload_n 0, 1) := by decide +kernel
theorem d_law_1478 : decode code 1478 = .ok (.iload_n 3, 1) := by decide +kernel
theorem d_law_1479 : decode code 1479 = .ok (.iconst 1, 1) := by decide +kernel
theorem d_law_1480 : decode code 1480 = .ok (.iadd, 1) := by decide +kernel
theorem d_law_1481 : decode code 1481 = .ok (.iaload, 1) := by decide +kernel
theorem d_law_1482 : decode code 1482 = .ok (.invokevirtual 182, 3) := by decide +kernel
theorem d_law_1485 : decode code 1485 = .ok (.if_icmp .eq 28, 3) := by decide +kernel
theorem d_law_1490 : decode code 1490 = .ok (.aload_n 1, 1) := by decide +kernel
theorem d_law_1491 : decode code 1491 = .ok (.aload_n 0, 1) := by decide +kernel
theorem d_law_1492 : decode code 1492 = .ok (.iload_n 3, 1) := by decide +kernel
theorem d_law_1493 : decode code 1493 = .ok (.iconst 1, 1) := by decide +kernel
theorem d_law_1494 : decode code 1494 = .ok (.iadd, 1) := by decide +kernel
theorem d_law_1495 : decode code 1495 = .ok (.iaload, 1) := by decide +kernel
theorem d_law_1496 : decode code 1496 = .ok (.invokevirtual 183, 3) := by decide +kernel
theorem d_law_1499 : decode code 1499 = .ok (.aload_n 2, 1) := by decide +kernel
theorem d_law_1500 : decode code 1500 = .ok (.aload_n 0, 1) := by decide +kernel
theorem d_law_1501 : decode code 1501 = .ok (.iload_n 3, 1) := by decide +kernel
theorem d_law_1502 : decode code 1502 = .ok (.iconst 1, 1) := by decide +kernel
theorem d_law_1503 : decode code 1503 = .ok (.iadd, 1) := by decide +kernel
theorem d_law_1504 : decode code 1504 = .ok (.iaload, 1) := by decide +kernel
theorem d_law_1505 : decode code 1505 = .ok (.invokevirtual 186, 3) := by decide +kernel
theorem d_law_1508 : decode code 1508 = .ok (.if_icmp .eq 5, 3) := by decide +kernel
theorem d_law_1513 : decode code 1513 = .ok (.iinc 3 6, 3) := by decide +kernel
theorem d_law_1516 : decode code 1516 = .ok (.goto (-1498), 3) := by decide +kernel
theorem d_law_1519 : decode code 1519 = .ok (.iconst 1, 1) := by decide +kernel
theorem d_law_1520 : decode code 1520 = .ok (.ireturn, 1) := by decide +kernel
