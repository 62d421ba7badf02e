/-! the law, decoded: 1342 and on -/
theorem dl_1342 : decode code 1342 = .ok (.invokevirtual 165, 3) := by decide +kernel
theorem dl_1345 : decode code 1345 = .ok (.if_icmp .eq 460, 3) := by decide +kernel
theorem dl_1348 : decode code 1348 = .ok (.iconst 0, 1) := by decide +kernel
theorem dl_1349 : decode code 1349 = .ok (.ireturn, 1) := by decide +kernel
theorem dl_1350 : decode code 1350 = .ok (.aload_n 1, 1) := by decide +kernel
theorem dl_1351 : decode code 1351 = .ok (.aload_n 0, 1) := by decide +kernel
theorem dl_1352 : decode code 1352 = .ok (.iload 4, 2) := by decide +kernel
theorem dl_1354 : decode code 1354 = .ok (.iconst 1, 1) := by decide +kernel
theorem dl_1355 : decode code 1355 = .ok (.iadd, 1) := by decide +kernel
theorem dl_1356 : decode code 1356 = .ok (.iaload, 1) := by decide +kernel
theorem dl_1357 : decode code 1357 = .ok (.invokevirtual 166, 3) := by decide +kernel
theorem dl_1360 : decode code 1360 = .ok (.aload_n 2, 1) := by decide +kernel
theorem dl_1361 : decode code 1361 = .ok (.aload_n 0, 1) := by decide +kernel
theorem dl_1362 : decode code 1362 = .ok (.iload 4, 2) := by decide +kernel
theorem dl_1364 : decode code 1364 = .ok (.iconst 1, 1) := by decide +kernel
theorem dl_1365 : decode code 1365 = .ok (.iadd, 1) := by decide +kernel
theorem dl_1366 : decode code 1366 = .ok (.iaload, 1) := by decide +kernel
theorem dl_1367 : decode code 1367 = .ok (.invokevirtual 169, 3) := by decide +kernel
theorem dl_1370 : decode code 1370 = .ok (.if_icmp .eq 435, 3) := by decide +kernel
theorem dl_1373 : decode code 1373 = .ok (.iconst 0, 1) := by decide +kernel
theorem dl_1374 : decode code 1374 = .ok (.ireturn, 1) := by decide +kernel
theorem dl_1375 : decode code 1375 = .ok (.aload_n 1, 1) := by decide +kernel
theorem dl_1376 : decode code 1376 = .ok (.aload_n 0, 1) := by decide +kernel
theorem dl_1377 : decode code 1377 = .ok (.iload 4, 2) := by decide +kernel
theorem dl_1379 : decode code 1379 = .ok (.iconst 1, 1) := by decide +kernel
theorem dl_1380 : decode code 1380 = .ok (.iadd, 1) := by decide +kernel
theorem dl_1381 : decode code 1381 = .ok (.iaload, 1) := by decide +kernel
theorem dl_1382 : decode code 1382 = .ok (.invokevirtual 170, 3) := by decide +kernel
theorem dl_1385 : decode code 1385 = .ok (.aload_n 2, 1) := by decide +kernel
theorem dl_1386 : decode code 1386 = .ok (.aload_n 0, 1) := by decide +kernel
theorem dl_1387 : decode code 1387 = .ok (.iload 4, 2) := by decide +kernel
theorem dl_1389 : decode code 1389 = .ok (.iconst 1, 1) := by decide +kernel
theorem dl_1390 : decode code 1390 = .ok (.iadd, 1) := by decide +kernel
theorem dl_1391 : decode code 1391 = .ok (.iaload, 1) := by decide +kernel
theorem dl_1392 : decode code 1392 = .ok (.invokevirtual 173, 3) := by decide +kernel
theorem dl_1395 : decode code 1395 = .ok (.if_icmp .eq 410, 3) := by decide +kernel
theorem dl_1398 : decode code 1398 = .ok (.iconst 0, 1) := by decide +kernel
theorem dl_1399 : decode code 1399 = .ok (.ireturn, 1) := by decide +kernel
theorem dl_1400 : decode code 1400 = .ok (.aload_n 1, 1) := by decide +kernel
theorem dl_1401 : decode code 1401 = .ok (.invokevirtual 174, 3) := by decide +kernel
theorem dl_1404 : decode code 1404 = .ok (.aload_n 2, 1) := by decide +kernel
theorem dl_1405 : decode code 1405 = .ok (.invokevirtual 177, 3) := by decide +kernel
theorem dl_1408 : decode code 1408 = .ok (.if_icmp .eq 397, 3) := by decide +kernel
theorem dl_1411 : decode code 1411 = .ok (.iconst 0, 1) := by decide +kernel
theorem dl_1412 : decode code 1412 = .ok (.ireturn, 1) := by decide +kernel
theorem dl_1413 : decode code 1413 = .ok (.aload_n 1, 1) := by decide +kernel
theorem dl_1414 : decode code 1414 = .ok (.aload_n 0, 1) := by decide +kernel
theorem dl_1415 : decode code 1415 = .ok (.iload 4, 2) := by decide +kernel
theorem dl_1417 : decode code 1417 = .ok (.iconst 1, 1) := by decide +kernel
theorem dl_1418 : decode code 1418 = .ok (.iadd, 1) := by decide +kernel
theorem dl_1419 : decode code 1419 = .ok (.iaload, 1) := by decide +kernel
theorem dl_1420 : decode code 1420 = .ok (.aload_n 0, 1) := by decide +kernel
theorem dl_1421 : decode code 1421 = .ok (.iload 4, 2) := by decide +kernel
theorem dl_1423 : decode code 1423 = .ok (.iconst 2, 1) := by decide +kernel
theorem dl_1424 : decode code 1424 = .ok (.iadd, 1) := by decide +kernel
theorem dl_1425 : decode code 1425 = .ok (.iaload, 1) := by decide +kernel
theorem dl_1426 : decode code 1426 = .ok (.aload_n 0, 1) := by decide +kernel
theorem dl_1427 : decode code 1427 = .ok (.iload 4, 2) := by decide +kernel
theorem dl_1429 : decode code 1429 = .ok (.iconst 3, 1) := by decide +kernel
theorem dl_1430 : decode code 1430 = .ok (.iadd, 1) := by decide +kernel
theorem dl_1431 : decode code 1431 = .ok (.iaload, 1) := by decide +kernel
theorem dl_1432 : decode code 1432 = .ok (.ifCond .eq 7, 3) := by decide +kernel
theorem dl_1435 : decode code 1435 = .ok (.iconst 1, 1) := by decide +kernel
theorem dl_1436 : decode code 1436 = .ok (.goto 4, 3) := by decide +kernel
theorem dl_1439 : decode code 1439 = .ok (.iconst 0, 1) := by decide +kernel
theorem dl_1440 : decode code 1440 = .ok (.invokevirtual 178, 3) := by decide +kernel
theorem dl_1443 : decode code 1443 = .ok (.aload_n 2, 1) := by decide +kernel
theorem dl_1444 : decode code 1444 = .ok (.aload_n 0, 1) := by decide +kernel
theorem dl_1445 : decode code 1445 = .ok (.iload 4, 2) := by decide +kernel
theorem dl_1447 : decode code 1447 = .ok (.iconst 1, 1) := by decide +kernel
theorem dl_1448 : decode code 1448 = .ok (.iadd, 1) := by decide +kernel
theorem dl_1449 : decode code 1449 = .ok (.iaload, 1) := by decide +kernel
theorem dl_1450 : decode code 1450 = .ok (.aload_n 0, 1) := by decide +kernel
theorem dl_1451 : decode code 1451 = .ok (.iload 4, 2) := by decide +kernel
theorem dl_1453 : decode code 1453 = .ok (.iconst 2, 1) := by decide +kernel
theorem dl_1454 : decode code 1454 = .ok (.iadd, 1) := by decide +kernel
theorem dl_1455 : decode code 1455 = .ok (.iaload, 1) := by decide +kernel
theorem dl_1456 : decode code 1456 = .ok (.aload_n 0, 1) := by decide +kernel
theorem dl_1457 : decode code 1457 = .ok (.iload 4, 2) := by decide +kernel
theorem dl_1459 : decode code 1459 = .ok (.iconst 3, 1) := by decide +kernel
theorem dl_1460 : decode code 1460 = .ok (.iadd, 1) := by decide +kernel
theorem dl_1461 : decode code 1461 = .ok (.iaload, 1) := by decide +kernel
theorem dl_1462 : decode code 1462 = .ok (.ifCond .eq 7, 3) := by decide +kernel
theorem dl_1465 : decode code 1465 = .ok (.iconst 1, 1) := by decide +kernel
theorem dl_1466 : decode code 1466 = .ok (.goto 4, 3) := by decide +kernel
theorem dl_1469 : decode code 1469 = .ok (.iconst 0, 1) := by decide +kernel
theorem dl_1470 : decode code 1470 = .ok (.invokevirtual 181, 3) := by decide +kernel
theorem dl_1473 : decode code 1473 = .ok (.if_icmp .eq 332, 3) := by decide +kernel
theorem dl_1476 : decode code 1476 = .ok (.iconst 0, 1) := by decide +kernel
theorem dl_1477 : decode code 1477 = .ok (.ireturn, 1) := by decide +kernel
theorem dl_1478 : decode code 1478 = .ok (.aload_n 1, 1) := by decide +kernel
theorem dl_1479 : decode code 1479 = .ok (.aload_n 0, 1) := by decide +kernel
theorem dl_1480 : decode code 1480 = .ok (.iload 4, 2) := by decide +kernel
theorem dl_1482 : decode code 1482 = .ok (.iconst 1, 1) := by decide +kernel
theorem dl_1483 : decode code 1483 = .ok (.iadd, 1) := by decide +kernel
theorem dl_1484 : decode code 1484 = .ok (.iaload, 1) := by decide +kernel
theorem dl_1485 : decode code 1485 = .ok (.aload_n 0, 1) := by decide +kernel
theorem dl_1486 : decode code 1486 = .ok (.iload 4, 2) := by decide +kernel
theorem dl_1488 : decode code 1488 = .ok (.iconst 2, 1) := by decide +kernel
theorem dl_1489 : decode code 1489 = .ok (.iadd, 1) := by decide +kernel
