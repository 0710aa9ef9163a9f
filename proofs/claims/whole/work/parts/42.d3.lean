theorem dL_law_1383 : decode cL_law 1383 = .ok (.invokevirtual 145, 3) := by decide +kernel
theorem dL_law_1386 : decode cL_law 1386 = .ok (.if_icmp .eq 642, 3) := by decide +kernel
theorem dL_law_1389 : decode cL_law 1389 = .ok (.iconst 0, 1) := by decide +kernel
theorem dL_law_1390 : decode cL_law 1390 = .ok (.ireturn, 1) := by decide +kernel
theorem dL_law_1391 : decode cL_law 1391 = .ok (.aload_n 1, 1) := by decide +kernel
theorem dL_law_1392 : decode cL_law 1392 = .ok (.aload_n 0, 1) := by decide +kernel
theorem dL_law_1393 : decode cL_law 1393 = .ok (.iload 4, 2) := by decide +kernel
theorem dL_law_1395 : decode cL_law 1395 = .ok (.iconst 1, 1) := by decide +kernel
theorem dL_law_1396 : decode cL_law 1396 = .ok (.iadd, 1) := by decide +kernel
theorem dL_law_1397 : decode cL_law 1397 = .ok (.iaload, 1) := by decide +kernel
theorem dL_law_1398 : decode cL_law 1398 = .ok (.aload_n 0, 1) := by decide +kernel
theorem dL_law_1399 : decode cL_law 1399 = .ok (.iload 4, 2) := by decide +kernel
theorem dL_law_1401 : decode cL_law 1401 = .ok (.iconst 2, 1) := by decide +kernel
theorem dL_law_1402 : decode cL_law 1402 = .ok (.iadd, 1) := by decide +kernel
theorem dL_law_1403 : decode cL_law 1403 = .ok (.iaload, 1) := by decide +kernel
theorem dL_law_1404 : decode cL_law 1404 = .ok (.aload_n 0, 1) := by decide +kernel
theorem dL_law_1405 : decode cL_law 1405 = .ok (.iload 4, 2) := by decide +kernel
theorem dL_law_1407 : decode cL_law 1407 = .ok (.iconst 3, 1) := by decide +kernel
theorem dL_law_1408 : decode cL_law 1408 = .ok (.iadd, 1) := by decide +kernel
theorem dL_law_1409 : decode cL_law 1409 = .ok (.iaload, 1) := by decide +kernel
theorem dL_law_1410 : decode cL_law 1410 = .ok (.invokevirtual 146, 3) := by decide +kernel
theorem dL_law_1413 : decode cL_law 1413 = .ok (.aload_n 2, 1) := by decide +kernel
theorem dL_law_1414 : decode cL_law 1414 = .ok (.aload_n 0, 1) := by decide +kernel
theorem dL_law_1415 : decode cL_law 1415 = .ok (.iload 4, 2) := by decide +kernel
theorem dL_law_1417 : decode cL_law 1417 = .ok (.iconst 1, 1) := by decide +kernel
theorem dL_law_1418 : decode cL_law 1418 = .ok (.iadd, 1) := by decide +kernel
theorem dL_law_1419 : decode cL_law 1419 = .ok (.iaload, 1) := by decide +kernel
theorem dL_law_1420 : decode cL_law 1420 = .ok (.aload_n 0, 1) := by decide +kernel
theorem dL_law_1421 : decode cL_law 1421 = .ok (.iload 4, 2) := by decide +kernel
theorem dL_law_1423 : decode cL_law 1423 = .ok (.iconst 2, 1) := by decide +kernel
theorem dL_law_1424 : decode cL_law 1424 = .ok (.iadd, 1) := by decide +kernel
theorem dL_law_1425 : decode cL_law 1425 = .ok (.iaload, 1) := by decide +kernel
theorem dL_law_1426 : decode cL_law 1426 = .ok (.aload_n 0, 1) := by decide +kernel
theorem dL_law_1427 : decode cL_law 1427 = .ok (.iload 4, 2) := by decide +kernel
theorem dL_law_1429 : decode cL_law 1429 = .ok (.iconst 3, 1) := by decide +kernel
theorem dL_law_1430 : decode cL_law 1430 = .ok (.iadd, 1) := by decide +kernel
theorem dL_law_1431 : decode cL_law 1431 = .ok (.iaload, 1) := by decide +kernel
theorem dL_law_1432 : decode cL_law 1432 = .ok (.invokevirtual 149, 3) := by decide +kernel
theorem dL_law_1435 : decode cL_law 1435 = .ok (.if_icmp .eq 593, 3) := by decide +kernel
theorem dL_law_1438 : decode cL_law 1438 = .ok (.iconst 0, 1) := by decide +kernel
theorem dL_law_1439 : decode cL_law 1439 = .ok (.ireturn, 1) := by decide +kernel
theorem dL_law_1440 : decode cL_law 1440 = .ok (.aload_n 1, 1) := by decide +kernel
theorem dL_law_1441 : decode cL_law 1441 = .ok (.invokevirtual 150, 3) := by decide +kernel
theorem dL_law_1444 : decode cL_law 1444 = .ok (.aload_n 2, 1) := by decide +kernel
theorem dL_law_1445 : decode cL_law 1445 = .ok (.invokevirtual 153, 3) := by decide +kernel
theorem dL_law_1448 : decode cL_law 1448 = .ok (.if_icmp .eq 580, 3) := by decide +kernel
theorem dL_law_1451 : decode cL_law 1451 = .ok (.iconst 0, 1) := by decide +kernel
theorem dL_law_1452 : decode cL_law 1452 = .ok (.ireturn, 1) := by decide +kernel
theorem dL_law_1453 : decode cL_law 1453 = .ok (.aload_n 1, 1) := by decide +kernel
theorem dL_law_1454 : decode cL_law 1454 = .ok (.invokevirtual 154, 3) := by decide +kernel
theorem dL_law_1457 : decode cL_law 1457 = .ok (.aload_n 2, 1) := by decide +kernel
theorem dL_law_1458 : decode cL_law 1458 = .ok (.invokevirtual 157, 3) := by decide +kernel
theorem dL_law_1461 : decode cL_law 1461 = .ok (.if_icmp .eq 567, 3) := by decide +kernel
theorem dL_law_1464 : decode cL_law 1464 = .ok (.iconst 0, 1) := by decide +kernel
theorem dL_law_1465 : decode cL_law 1465 = .ok (.ireturn, 1) := by decide +kernel
theorem dL_law_1466 : decode cL_law 1466 = .ok (.aload_n 1, 1) := by decide +kernel
theorem dL_law_1467 : decode cL_law 1467 = .ok (.invokevirtual 158, 3) := by decide +kernel
theorem dL_law_1470 : decode cL_law 1470 = .ok (.aload_n 2, 1) := by decide +kernel
theorem dL_law_1471 : decode cL_law 1471 = .ok (.invokevirtual 161, 3) := by decide +kernel
theorem dL_law_1474 : decode cL_law 1474 = .ok (.if_icmp .eq 554, 3) := by decide +kernel
theorem dL_law_1477 : decode cL_law 1477 = .ok (.iconst 0, 1) := by decide +kernel
theorem dL_law_1478 : decode cL_law 1478 = .ok (.ireturn, 1) := by decide +kernel
theorem dL_law_1479 : decode cL_law 1479 = .ok (.aload_n 1, 1) := by decide +kernel
theorem dL_law_1480 : decode cL_law 1480 = .ok (.invokevirtual 162, 3) := by decide +kernel
theorem dL_law_1483 : decode cL_law 1483 = .ok (.aload_n 2, 1) := by decide +kernel
theorem dL_law_1484 : decode cL_law 1484 = .ok (.invokevirtual 165, 3) := by decide +kernel
theorem dL_law_1487 : decode cL_law 1487 = .ok (.if_icmp .eq 541, 3) := by decide +kernel
theorem dL_law_1490 : decode cL_law 1490 = .ok (.iconst 0, 1) := by decide +kernel
theorem dL_law_1491 : decode cL_law 1491 = .ok (.ireturn, 1) := by decide +kernel
theorem dL_law_1492 : decode cL_law 1492 = .ok (.aload_n 1, 1) := by decide +kernel
theorem dL_law_1493 : decode cL_law 1493 = .ok (.aload_n 0, 1) := by decide +kernel
theorem dL_law_1494 : decode cL_law 1494 = .ok (.iload 4, 2) := by decide +kernel
theorem dL_law_1496 : decode cL_law 1496 = .ok (.iconst 1, 1) := by decide +kernel
theorem dL_law_1497 : decode cL_law 1497 = .ok (.iadd, 1) := by decide +kernel
theorem dL_law_1498 : decode cL_law 1498 = .ok (.iaload, 1) := by decide +kernel
theorem dL_law_1499 : decode cL_law 1499 = .ok (.invokevirtual 166, 3) := by decide +kernel
theorem dL_law_1502 : decode cL_law 1502 = .ok (.aload_n 2, 1) := by decide +kernel
theorem dL_law_1503 : decode cL_law 1503 = .ok (.aload_n 0, 1) := by decide +kernel
theorem dL_law_1504 : decode cL_law 1504 = .ok (.iload 4, 2) := by decide +kernel
theorem dL_law_1506 : decode cL_law 1506 = .ok (.iconst 1, 1) := by decide +kernel
theorem dL_law_1507 : decode cL_law 1507 = .ok (.iadd, 1) := by decide +kernel
theorem dL_law_1508 : decode cL_law 1508 = .ok (.iaload, 1) := by decide +kernel
theorem dL_law_1509 : decode cL_law 1509 = .ok (.invokevirtual 169, 3) := by decide +kernel
theorem dL_law_1512 : decode cL_law 1512 = .ok (.if_icmp .eq 516, 3) := by decide +kernel
theorem dL_law_1515 : decode cL_law 1515 = .ok (.iconst 0, 1) := by decide +kernel
theorem dL_law_1516 : decode cL_law 1516 = .ok (.ireturn, 1) := by decide +kernel
theorem dL_law_1517 : decode cL_law 1517 = .ok (.aload_n 1, 1) := by decide +kernel
theorem dL_law_1518 : decode cL_law 1518 = .ok (.aload_n 0, 1) := by decide +kernel
theorem dL_law_1519 : decode cL_law 1519 = .ok (.iload 4, 2) := by decide +kernel
theorem dL_law_1521 : decode cL_law 1521 = .ok (.iconst 1, 1) := by decide +kernel
theorem dL_law_1522 : decode cL_law 1522 = .ok (.iadd, 1) := by decide +kernel
theorem dL_law_1523 : decode cL_law 1523 = .ok (.iaload, 1) := by decide +kernel
theorem dL_law_1524 : decode cL_law 1524 = .ok (.aload_n 0, 1) := by decide +kernel
theorem dL_law_1525 : decode cL_law 1525 = .ok (.iload 4, 2) := by decide +kernel
theorem dL_law_1527 : decode cL_law 1527 = .ok (.iconst 2, 1) := by decide +kernel
theorem dL_law_1528 : decode cL_law 1528 = .ok (.iadd, 1) := by decide +kernel
theorem dL_law_1529 : decode cL_law 1529 = .ok (.iaload, 1) := by decide +kernel
theorem dL_law_1530 : decode cL_law 1530 = .ok (.aload_n 0, 1) := by decide +kernel
theorem dL_law_1531 : decode cL_law 1531 = .ok (.iload 4, 2) := by decide +kernel
theorem dL_law_1533 : decode cL_law 1533 = .ok (.iconst 3, 1) := by decide +kernel
theorem dL_law_1534 : decode cL_law 1534 = .ok (.iadd, 1) := by decide +kernel
theorem dL_law_1535 : decode cL_law 1535 = .ok (.iaload, 1) := by decide +kernel
theorem dL_law_1536 : decode cL_law 1536 = .ok (.ifCond .eq 7, 3) := by decide +kernel
theorem dL_law_1539 : decode cL_law 1539 = .ok (.iconst 1, 1) := by decide +kernel
theorem dL_law_1540 : decode cL_law 1540 = .ok (.goto 4, 3) := by decide +kernel
theorem dL_law_1543 : decode cL_law 1543 = .ok (.iconst 0, 1) := by decide +kernel
theorem dL_law_1544 : decode cL_law 1544 = .ok (.invokevirtual 170, 3) := by decide +kernel
theorem dL_law_1547 : decode cL_law 1547 = .ok (.aload_n 2, 1) := by decide +kernel
theorem dL_law_1548 : decode cL_law 1548 = .ok (.aload_n 0, 1) := by decide +kernel
theorem dL_law_1549 : decode cL_law 1549 = .ok (.iload 4, 2) := by decide +kernel
theorem dL_law_1551 : decode cL_law 1551 = .ok (.iconst 1, 1) := by decide +kernel
theorem dL_law_1552 : decode cL_law 1552 = .ok (.iadd, 1) := by decide +kernel
theorem dL_law_1553 : decode cL_law 1553 = .ok (.iaload, 1) := by decide +kernel
theorem dL_law_1554 : decode cL_law 1554 = .ok (.aload_n 0, 1) := by decide +kernel
theorem dL_law_1555 : decode cL_law 1555 = .ok (.iload 4, 2) := by decide +kernel
theorem dL_law_1557 : decode cL_law 1557 = .ok (.iconst 2, 1) := by decide +kernel
theorem dL_law_1558 : decode cL_law 1558 = .ok (.iadd, 1) := by decide +kernel
theorem dL_law_1559 : decode cL_law 1559 = .ok (.iaload, 1) := by decide +kernel
theorem dL_law_1560 : decode cL_law 1560 = .ok (.aload_n 0, 1) := by decide +kernel
theorem dL_law_1561 : decode cL_law 1561 = .ok (.iload 4, 2) := by decide +kernel
theorem dL_law_1563 : decode cL_law 1563 = .ok (.iconst 3, 1) := by decide +kernel
theorem dL_law_1564 : decode cL_law 1564 = .ok (.iadd, 1) := by decide +kernel
theorem dL_law_1565 : decode cL_law 1565 = .ok (.iaload, 1) := by decide +kernel
theorem dL_law_1566 : decode cL_law 1566 = .ok (.ifCond .eq 7, 3) := by decide +kernel
theorem dL_law_1569 : decode cL_law 1569 = .ok (.iconst 1, 1) := by decide +kernel
theorem dL_law_1570 : decode cL_law 1570 = .ok (.goto 4, 3) := by decide +kernel
theorem dL_law_1573 : decode cL_law 1573 = .ok (.iconst 0, 1) := by decide +kernel
theorem dL_law_1574 : decode cL_law 1574 = .ok (.invokevirtual 173, 3) := by decide +kernel
theorem dL_law_1577 : decode cL_law 1577 = .ok (.if_icmp .eq 451, 3) := by decide +kernel
theorem dL_law_1580 : decode cL_law 1580 = .ok (.iconst 0, 1) := by decide +kernel
theorem dL_law_1581 : decode cL_law 1581 = .ok (.ireturn, 1) := by decide +kernel
theorem dL_law_1582 : decode cL_law 1582 = .ok (.aload_n 1, 1) := by decide +kernel
theorem dL_law_1583 : decode cL_law 1583 = .ok (.aload_n 0, 1) := by decide +kernel
theorem dL_law_1584 : decode cL_law 1584 = .ok (.iload 4, 2) := by decide +kernel
theorem dL_law_1586 : decode cL_law 1586 = .ok (.iconst 1, 1) := by decide +kernel
theorem dL_law_1587 : decode cL_law 1587 = .ok (.iadd, 1) := by decide +kernel
theorem dL_law_1588 : decode cL_law 1588 = .ok (.iaload, 1) := by decide +kernel
theorem dL_law_1589 : decode cL_law 1589 = .ok (.aload_n 0, 1) := by decide +kernel
theorem dL_law_1590 : decode cL_law 1590 = .ok (.iload 4, 2) := by decide +kernel
theorem dL_law_1592 : decode cL_law 1592 = .ok (.iconst 2, 1) := by decide +kernel
theorem dL_law_1593 : decode cL_law 1593 = .ok (.iadd, 1) := by decide +kernel
theorem dL_law_1594 : decode cL_law 1594 = .ok (.iaload, 1) := by decide +kernel
theorem dL_law_1595 : decode cL_law 1595 = .ok (.invokevirtual 174, 3) := by decide +kernel
theorem dL_law_1598 : decode cL_law 1598 = .ok (.aload_n 2, 1) := by decide +kernel
theorem dL_law_1599 : decode cL_law 1599 = .ok (.aload_n 0, 1) := by decide +kernel
theorem dL_law_1600 : decode cL_law 1600 = .ok (.iload 4, 2) := by decide +kernel
theorem dL_law_1602 : decode cL_law 1602 = .ok (.iconst 1, 1) := by decide +kernel
theorem dL_law_1603 : decode cL_law 1603 = .ok (.iadd, 1) := by decide +kernel
theorem dL_law_1604 : decode cL_law 1604 = .ok (.iaload, 1) := by decide +kernel
theorem dL_law_1605 : decode cL_law 1605 = .ok (.aload_n 0, 1) := by decide +kernel
theorem dL_law_1606 : decode cL_law 1606 = .ok (.iload 4, 2) := by decide +kernel
theorem dL_law_1608 : decode cL_law 1608 = .ok (.iconst 2, 1) := by decide +kernel
theorem dL_law_1609 : decode cL_law 1609 = .ok (.iadd, 1) := by decide +kernel
theorem dL_law_1610 : decode cL_law 1610 = .ok (.iaload, 1) := by decide +kernel
theorem dL_law_1611 : decode cL_law 1611 = .ok (.invokevirtual 177, 3) := by decide +kernel
theorem dL_law_1614 : decode cL_law 1614 = .ok (.if_icmp .eq 414, 3) := by decide +kernel
theorem dL_law_1617 : decode cL_law 1617 = .ok (.iconst 0, 1) := by decide +kernel
theorem dL_law_1618 : decode cL_law 1618 = .ok (.ireturn, 1) := by decide +kernel
theorem dL_law_1619 : decode cL_law 1619 = .ok (.aload_n 1, 1) := by decide +kernel
theorem dL_law_1620 : decode cL_law 1620 = .ok (.aload_n 0, 1) := by decide +kernel
theorem dL_law_1621 : decode cL_law 1621 = .ok (.iload 4, 2) := by decide +kernel
theorem dL_law_1623 : decode cL_law 1623 = .ok (.iconst 1, 1) := by decide +kernel
theorem dL_law_1624 : decode cL_law 1624 = .ok (.iadd, 1) := by decide +kernel
theorem dL_law_1625 : decode cL_law 1625 = .ok (.iaload, 1) := by decide +kernel
theorem dL_law_1626 : decode cL_law 1626 = .ok (.aload_n 0, 1) := by decide +kernel
theorem dL_law_1627 : decode cL_law 1627 = .ok (.iload 4, 2) := by decide +kernel
theorem dL_law_1629 : decode cL_law 1629 = .ok (.iconst 2, 1) := by decide +kernel
theorem dL_law_1630 : decode cL_law 1630 = .ok (.iadd, 1) := by decide +kernel
theorem dL_law_1631 : decode cL_law 1631 = .ok (.iaload, 1) := by decide +kernel
theorem dL_law_1632 : decode cL_law 1632 = .ok (.aload_n 0, 1) := by decide +kernel
theorem dL_law_1633 : decode cL_law 1633 = .ok (.iload 4, 2) := by decide +kernel
theorem dL_law_1635 : decode cL_law 1635 = .ok (.iconst 3, 1) := by decide +kernel
theorem dL_law_1636 : decode cL_law 1636 = .ok (.iadd, 1) := by decide +kernel
theorem dL_law_1637 : decode cL_law 1637 = .ok (.iaload, 1) := by decide +kernel
theorem dL_law_1638 : decode cL_law 1638 = .ok (.invokevirtual 178, 3) := by decide +kernel
theorem dL_law_1641 : decode cL_law 1641 = .ok (.aload_n 2, 1) := by decide +kernel
theorem dL_law_1642 : decode cL_law 1642 = .ok (.aload_n 0, 1) := by decide +kernel
theorem dL_law_1643 : decode cL_law 1643 = .ok (.iload 4, 2) := by decide +kernel
theorem dL_law_1645 : decode cL_law 1645 = .ok (.iconst 1, 1) := by decide +kernel
theorem dL_law_1646 : decode cL_law 1646 = .ok (.iadd, 1) := by decide +kernel
theorem dL_law_1647 : decode cL_law 1647 = .ok (.iaload, 1) := by decide +kernel
theorem dL_law_1648 : decode cL_law 1648 = .ok (.aload_n 0, 1) := by decide +kernel
theorem dL_law_1649 : decode cL_law 1649 = .ok (.iload 4, 2) := by decide +kernel
theorem dL_law_1651 : decode cL_law 1651 = .ok (.iconst 2, 1) := by decide +kernel
theorem dL_law_1652 : decode cL_law 1652 = .ok (.iadd, 1) := by decide +kernel
theorem dL_law_1653 : decode cL_law 1653 = .ok (.iaload, 1) := by decide +kernel
theorem dL_law_1654 : decode cL_law 1654 = .ok (.aload_n 0, 1) := by decide +kernel
theorem dL_law_1655 : decode cL_law 1655 = .ok (.iload 4, 2) := by decide +kernel
theorem dL_law_1657 : decode cL_law 1657 = .ok (.iconst 3, 1) := by decide +kernel
theorem dL_law_1658 : decode cL_law 1658 = .ok (.iadd, 1) := by decide +kernel
theorem dL_law_1659 : decode cL_law 1659 = .ok (.iaload, 1) := by decide +kernel
theorem dL_law_1660 : decode cL_law 1660 = .ok (.invokevirtual 181, 3) := by decide +kernel
theorem dL_law_1663 : decode cL_law 1663 = .ok (.if_icmp .eq 365, 3) := by decide +kernel
theorem dL_law_1666 : decode cL_law 1666 = .ok (.iconst 0, 1) := by decide +kernel
theorem dL_law_1667 : decode cL_law 1667 = .ok (.ireturn, 1) := by decide +kernel
theorem dL_law_1668 : decode cL_law 1668 = .ok (.aload_n 1, 1) := by decide +kernel
theorem dL_law_1669 : decode cL_law 1669 = .ok (.aload_n 0, 1) := by decide +kernel
theorem dL_law_1670 : decode cL_law 1670 = .ok (.iload 4, 2) := by decide +kernel
theorem dL_law_1672 : decode cL_law 1672 = .ok (.iconst 1, 1) := by decide +kernel
theorem dL_law_1673 : decode cL_law 1673 = .ok (.iadd, 1) := by decide +kernel
theorem dL_law_1674 : decode cL_law 1674 = .ok (.iaload, 1) := by decide +kernel
theorem dL_law_1675 : decode cL_law 1675 = .ok (.aload_n 0, 1) := by decide +kernel
theorem dL_law_1676 : decode cL_law 1676 = .ok (.iload 4, 2) := by decide +kernel
theorem dL_law_1678 : decode cL_law 1678 = .ok (.iconst 2, 1) := by decide +kernel
theorem dL_law_1679 : decode cL_law 1679 = .ok (.iadd, 1) := by decide +kernel
theorem dL_law_1680 : decode cL_law 1680 = .ok (.iaload, 1) := by decide +kernel
theorem dL_law_1681 : decode cL_law 1681 = .ok (.invokevirtual 182, 3) := by decide +kernel
theorem dL_law_1684 : decode cL_law 1684 = .ok (.aload_n 2, 1) := by decide +kernel
theorem dL_law_1685 : decode cL_law 1685 = .ok (.aload_n 0, 1) := by decide +kernel
theorem dL_law_1686 : decode cL_law 1686 = .ok (.iload 4, 2) := by decide +kernel
theorem dL_law_1688 : decode cL_law 1688 = .ok (.iconst 1, 1) := by decide +kernel
theorem dL_law_1689 : decode cL_law 1689 = .ok (.iadd, 1) := by decide +kernel
theorem dL_law_1690 : decode cL_law 1690 = .ok (.iaload, 1) := by decide +kernel
theorem dL_law_1691 : decode cL_law 1691 = .ok (.aload_n 0, 1) := by decide +kernel
theorem dL_law_1692 : decode cL_law 1692 = .ok (.iload 4, 2) := by decide +kernel
theorem dL_law_1694 : decode cL_law 1694 = .ok (.iconst 2, 1) := by decide +kernel
theorem dL_law_1695 : decode cL_law 1695 = .ok (.iadd, 1) := by decide +kernel
theorem dL_law_1696 : decode cL_law 1696 = .ok (.iaload, 1) := by decide +kernel
theorem dL_law_1697 : decode cL_law 1697 = .ok (.invokevirtual 186, 3) := by decide +kernel
theorem dL_law_1700 : decode cL_law 1700 = .ok (.if_icmp .eq 328, 3) := by decide +kernel
theorem dL_law_1703 : decode cL_law 1703 = .ok (.iconst 0, 1) := by decide +kernel
theorem dL_law_1704 : decode cL_law 1704 = .ok (.ireturn, 1) := by decide +kernel
theorem dL_law_1705 : decode cL_law 1705 = .ok (.aload_n 1, 1) := by decide +kernel
theorem dL_law_1706 : decode cL_law 1706 = .ok (.aload_n 0, 1) := by decide +kernel
theorem dL_law_1707 : decode cL_law 1707 = .ok (.iload 4, 2) := by decide +kernel
theorem dL_law_1709 : decode cL_law 1709 = .ok (.iconst 1, 1) := by decide +kernel
theorem dL_law_1710 : decode cL_law 1710 = .ok (.iadd, 1) := by decide +kernel
theorem dL_law_1711 : decode cL_law 1711 = .ok (.iaload, 1) := by decide +kernel
theorem dL_law_1712 : decode cL_law 1712 = .ok (.aload_n 0, 1) := by decide +kernel
theorem dL_law_1713 : decode cL_law 1713 = .ok (.iload 4, 2) := by decide +kernel
theorem dL_law_1715 : decode cL_law 1715 = .ok (.iconst 2, 1) := by decide +kernel
theorem dL_law_1716 : decode cL_law 1716 = .ok (.iadd, 1) := by decide +kernel
theorem dL_law_1717 : decode cL_law 1717 = .ok (.iaload, 1) := by decide +kernel
theorem dL_law_1718 : decode cL_law 1718 = .ok (.invokevirtual 187, 3) := by decide +kernel
theorem dL_law_1721 : decode cL_law 1721 = .ok (.aload_n 2, 1) := by decide +kernel
theorem dL_law_1722 : decode cL_law 1722 = .ok (.aload_n 0, 1) := by decide +kernel
theorem dL_law_1723 : decode cL_law 1723 = .ok (.iload 4, 2) := by decide +kernel
theorem dL_law_1725 : decode cL_law 1725 = .ok (.iconst 1, 1) := by decide +kernel
theorem dL_law_1726 : decode cL_law 1726 = .ok (.iadd, 1) := by decide +kernel
theorem dL_law_1727 : decode cL_law 1727 = .ok (.iaload, 1) := by decide +kernel
theorem dL_law_1728 : decode cL_law 1728 = .ok (.aload_n 0, 1) := by decide +kernel
theorem dL_law_1729 : decode cL_law 1729 = .ok (.iload 4, 2) := by decide +kernel
theorem dL_law_1731 : decode cL_law 1731 = .ok (.iconst 2, 1) := by decide +kernel
theorem dL_law_1732 : decode cL_law 1732 = .ok (.iadd, 1) := by decide +kernel
theorem dL_law_1733 : decode cL_law 1733 = .ok (.iaload, 1) := by decide +kernel
theorem dL_law_1734 : decode cL_law 1734 = .ok (.invokevirtual 190, 3) := by decide +kernel
theorem dL_law_1737 : decode cL_law 1737 = .ok (.if_icmp .eq 291, 3) := by decide +kernel
theorem dL_law_1740 : decode cL_law 1740 = .ok (.iconst 0, 1) := by decide +kernel
theorem dL_law_1741 : decode cL_law 1741 = .ok (.ireturn, 1) := by decide +kernel
theorem dL_law_1742 : decode cL_law 1742 = .ok (.aload_n 1, 1) := by decide +kernel
theorem dL_law_1743 : decode cL_law 1743 = .ok (.aload_n 0, 1) := by decide +kernel
theorem dL_law_1744 : decode cL_law 1744 = .ok (.iload 4, 2) := by decide +kernel
theorem dL_law_1746 : decode cL_law 1746 = .ok (.iconst 1, 1) := by decide +kernel
theorem dL_law_1747 : decode cL_law 1747 = .ok (.iadd, 1) := by decide +kernel
theorem dL_law_1748 : decode cL_law 1748 = .ok (.iaload, 1) := by decide +kernel
theorem dL_law_1749 : decode cL_law 1749 = .ok (.invokevirtual 191, 3) := by decide +kernel
theorem dL_law_1752 : decode cL_law 1752 = .ok (.aload_n 2, 1) := by decide +kernel
theorem dL_law_1753 : decode cL_law 1753 = .ok (.aload_n 0, 1) := by decide +kernel
theorem dL_law_1754 : decode cL_law 1754 = .ok (.iload 4, 2) := by decide +kernel
theorem dL_law_1756 : decode cL_law 1756 = .ok (.iconst 1, 1) := by decide +kernel
theorem dL_law_1757 : decode cL_law 1757 = .ok (.iadd, 1) := by decide +kernel
theorem dL_law_1758 : decode cL_law 1758 = .ok (.iaload, 1) := by decide +kernel
theorem dL_law_1759 : decode cL_law 1759 = .ok (.invokevirtual 195, 3) := by decide +kernel
theorem dL_law_1762 : decode cL_law 1762 = .ok (.if_icmp .eq 266, 3) := by decide +kernel
theorem dL_law_1765 : decode cL_law 1765 = .ok (.iconst 0, 1) := by decide +kernel
theorem dL_law_1766 : decode cL_law 1766 = .ok (.ireturn, 1) := by decide +kernel
theorem dL_law_1767 : decode cL_law 1767 = .ok (.aload_n 1, 1) := by decide +kernel
theorem dL_law_1768 : decode cL_law 1768 = .ok (.aload_n 0, 1) := by decide +kernel
theorem dL_law_1769 : decode cL_law 1769 = .ok (.iload 4, 2) := by decide +kernel
theorem dL_law_1771 : decode cL_law 1771 = .ok (.iconst 1, 1) := by decide +kernel
theorem dL_law_1772 : decode cL_law 1772 = .ok (.iadd, 1) := by decide +kernel
theorem dL_law_1773 : decode cL_law 1773 = .ok (.iaload, 1) := by decide +kernel
theorem dL_law_1774 : decode cL_law 1774 = .ok (.aload_n 0, 1) := by decide +kernel
theorem dL_law_1775 : decode cL_law 1775 = .ok (.iload 4, 2) := by decide +kernel
theorem dL_law_1777 : decode cL_law 1777 = .ok (.iconst 2, 1) := by decide +kernel
theorem dL_law_1778 : decode cL_law 1778 = .ok (.iadd, 1) := by decide +kernel
theorem dL_law_1779 : decode cL_law 1779 = .ok (.iaload, 1) := by decide +kernel
theorem dL_law_1780 : decode cL_law 1780 = .ok (.invokevirtual 196, 3) := by decide +kernel
theorem dL_law_1783 : decode cL_law 1783 = .ok (.aload_n 2, 1) := by decide +kernel
theorem dL_law_1784 : decode cL_law 1784 = .ok (.aload_n 0, 1) := by decide +kernel
theorem dL_law_1785 : decode cL_law 1785 = .ok (.iload 4, 2) := by decide +kernel
theorem dL_law_1787 : decode cL_law 1787 = .ok (.iconst 1, 1) := by decide +kernel
theorem dL_law_1788 : decode cL_law 1788 = .ok (.iadd, 1) := by decide +kernel
theorem dL_law_1789 : decode cL_law 1789 = .ok (.iaload, 1) := by decide +kernel
theorem dL_law_1790 : decode cL_law 1790 = .ok (.aload_n 0, 1) := by decide +kernel
theorem dL_law_1791 : decode cL_law 1791 = .ok (.iload 4, 2) := by decide +kernel
theorem dL_law_1793 : decode cL_law 1793 = .ok (.iconst 2, 1) := by decide +kernel
theorem dL_law_1794 : decode cL_law 1794 = .ok (.iadd, 1) := by decide +kernel
theorem dL_law_1795 : decode cL_law 1795 = .ok (.iaload, 1) := by decide +kernel
theorem dL_law_1796 : decode cL_law 1796 = .ok (.invokevirtual 199, 3) := by decide +kernel
theorem dL_law_1799 : decode cL_law 1799 = .ok (.if_icmp .eq 229, 3) := by decide +kernel
theorem dL_law_1802 : decode cL_law 1802 = .ok (.iconst 0, 1) := by decide +kernel
theorem dL_law_1803 : decode cL_law 1803 = .ok (.ireturn, 1) := by decide +kernel
theorem dL_law_1804 : decode cL_law 1804 = .ok (.aload_n 1, 1) := by decide +kernel
theorem dL_law_1805 : decode cL_law 1805 = .ok (.aload_n 0, 1) := by decide +kernel
theorem dL_law_1806 : decode cL_law 1806 = .ok (.iload 4, 2) := by decide +kernel
theorem dL_law_1808 : decode cL_law 1808 = .ok (.iconst 1, 1) := by decide +kernel
theorem dL_law_1809 : decode cL_law 1809 = .ok (.iadd, 1) := by decide +kernel
theorem dL_law_1810 : decode cL_law 1810 = .ok (.iaload, 1) := by decide +kernel
theorem dL_law_1811 : decode cL_law 1811 = .ok (.ifCond .eq 7, 3) := by decide +kernel
theorem dL_law_1814 : decode cL_law 1814 = .ok (.iconst 1, 1) := by decide +kernel
theorem dL_law_1815 : decode cL_law 1815 = .ok (.goto 4, 3) := by decide +kernel
theorem dL_law_1818 : decode cL_law 1818 = .ok (.iconst 0, 1) := by decide +kernel
theorem dL_law_1819 : decode cL_law 1819 = .ok (.invokevirtual 200, 3) := by decide +kernel
theorem dL_law_1822 : decode cL_law 1822 = .ok (.aload_n 2, 1) := by decide +kernel
theorem dL_law_1823 : decode cL_law 1823 = .ok (.aload_n 0, 1) := by decide +kernel
theorem dL_law_1824 : decode cL_law 1824 = .ok (.iload 4, 2) := by decide +kernel
theorem dL_law_1826 : decode cL_law 1826 = .ok (.iconst 1, 1) := by decide +kernel
theorem dL_law_1827 : decode cL_law 1827 = .ok (.iadd, 1) := by decide +kernel
theorem dL_law_1828 : decode cL_law 1828 = .ok (.iaload, 1) := by decide +kernel
theorem dL_law_1829 : decode cL_law 1829 = .ok (.ifCond .eq 7, 3) := by decide +kernel
theorem dL_law_1832 : decode cL_law 1832 = .ok (.iconst 1, 1) := by decide +kernel
theorem dL_law_1833 : decode cL_law 1833 = .ok (.goto 4, 3) := by decide +kernel
theorem dL_law_1836 : decode cL_law 1836 = .ok (.iconst 0, 1) := by decide +kernel
theorem dL_law_1837 : decode cL_law 1837 = .ok (.invokevirtual 204, 3) := by decide +kernel
theorem dL_law_1840 : decode cL_law 1840 = .ok (.if_icmp .eq 188, 3) := by decide +kernel
theorem dL_law_1843 : decode cL_law 1843 = .ok (.iconst 0, 1) := by decide +kernel
theorem dL_law_1844 : decode cL_law 1844 = .ok (.ireturn, 1) := by decide +kernel
theorem dL_law_1845 : decode cL_law 1845 = .ok (.aload_n 1, 1) := by decide +kernel
theorem dL_law_1846 : decode cL_law 1846 = .ok (.invokevirtual 205, 3) := by decide +kernel
theorem dL_law_1849 : decode cL_law 1849 = .ok (.aload_n 2, 1) := by decide +kernel
theorem dL_law_1850 : decode cL_law 1850 = .ok (.invokevirtual 208, 3) := by decide +kernel
theorem dL_law_1853 : decode cL_law 1853 = .ok (.if_icmp .eq 175, 3) := by decide +kernel
theorem dL_law_1856 : decode cL_law 1856 = .ok (.iconst 0, 1) := by decide +kernel
theorem dL_law_1857 : decode cL_law 1857 = .ok (.ireturn, 1) := by decide +kernel
theorem dL_law_1858 : decode cL_law 1858 = .ok (.aload_n 1, 1) := by decide +kernel
theorem dL_law_1859 : decode cL_law 1859 = .ok (.aload_n 0, 1) := by decide +kernel
theorem dL_law_1860 : decode cL_law 1860 = .ok (.iload 4, 2) := by decide +kernel
theorem dL_law_1862 : decode cL_law 1862 = .ok (.iconst 1, 1) := by decide +kernel
theorem dL_law_1863 : decode cL_law 1863 = .ok (.iadd, 1) := by decide +kernel
theorem dL_law_1864 : decode cL_law 1864 = .ok (.iaload, 1) := by decide +kernel
theorem dL_law_1865 : decode cL_law 1865 = .ok (.invokevirtual 209, 3) := by decide +kernel
theorem dL_law_1868 : decode cL_law 1868 = .ok (.aload_n 2, 1) := by decide +kernel
theorem dL_law_1869 : decode cL_law 1869 = .ok (.aload_n 0, 1) := by decide +kernel
theorem dL_law_1870 : decode cL_law 1870 = .ok (.iload 4, 2) := by decide +kernel
theorem dL_law_1872 : decode cL_law 1872 = .ok (.iconst 1, 1) := by decide +kernel
theorem dL_law_1873 : decode cL_law 1873 = .ok (.iadd, 1) := by decide +kernel
theorem dL_law_1874 : decode cL_law 1874 = .ok (.iaload, 1) := by decide +kernel
theorem dL_law_1875 : decode cL_law 1875 = .ok (.invokevirtual 212, 3) := by decide +kernel
theorem dL_law_1878 : decode cL_law 1878 = .ok (.if_icmp .eq 150, 3) := by decide +kernel
theorem dL_law_1881 : decode cL_law 1881 = .ok (.iconst 0, 1) := by decide +kernel
theorem dL_law_1882 : decode cL_law 1882 = .ok (.ireturn, 1) := by decide +kernel
theorem dL_law_1883 : decode cL_law 1883 = .ok (.aload_n 1, 1) := by decide +kernel
theorem dL_law_1884 : decode cL_law 1884 = .ok (.invokevirtual 213, 3) := by decide +kernel
theorem dL_law_1887 : decode cL_law 1887 = .ok (.aload_n 2, 1) := by decide +kernel
theorem dL_law_1888 : decode cL_law 1888 = .ok (.invokevirtual 217, 3) := by decide +kernel
theorem dL_law_1891 : decode cL_law 1891 = .ok (.if_icmp .eq 137, 3) := by decide +kernel
theorem dL_law_1894 : decode cL_law 1894 = .ok (.iconst 0, 1) := by decide +kernel
theorem dL_law_1895 : decode cL_law 1895 = .ok (.ireturn, 1) := by decide +kernel
theorem dL_law_1896 : decode cL_law 1896 = .ok (.aload_n 1, 1) := by decide +kernel
theorem dL_law_1897 : decode cL_law 1897 = .ok (.invokevirtual 218, 3) := by decide +kernel
theorem dL_law_1900 : decode cL_law 1900 = .ok (.aload_n 2, 1) := by decide +kernel
theorem dL_law_1901 : decode cL_law 1901 = .ok (.invokevirtual 221, 3) := by decide +kernel
theorem dL_law_1904 : decode cL_law 1904 = .ok (.if_icmp .eq 124, 3) := by decide +kernel
theorem dL_law_1907 : decode cL_law 1907 = .ok (.iconst 0, 1) := by decide +kernel
theorem dL_law_1908 : decode cL_law 1908 = .ok (.ireturn, 1) := by decide +kernel
theorem dL_law_1909 : decode cL_law 1909 = .ok (.aload_n 1, 1) := by decide +kernel
theorem dL_law_1910 : decode cL_law 1910 = .ok (.aload_n 0, 1) := by decide +kernel
theorem dL_law_1911 : decode cL_law 1911 = .ok (.iload 4, 2) := by decide +kernel
theorem dL_law_1913 : decode cL_law 1913 = .ok (.iconst 1, 1) := by decide +kernel
theorem dL_law_1914 : decode cL_law 1914 = .ok (.iadd, 1) := by decide +kernel
theorem dL_law_1915 : decode cL_law 1915 = .ok (.iaload, 1) := by decide +kernel
theorem dL_law_1916 : decode cL_law 1916 = .ok (.invokevirtual 222, 3) := by decide +kernel
theorem dL_law_1919 : decode cL_law 1919 = .ok (.aload_n 2, 1) := by decide +kernel
theorem dL_law_1920 : decode cL_law 1920 = .ok (.aload_n 0, 1) := by decide +kernel
theorem dL_law_1921 : decode cL_law 1921 = .ok (.iload 4, 2) := by decide +kernel
theorem dL_law_1923 : decode cL_law 1923 = .ok (.iconst 1, 1) := by decide +kernel
theorem dL_law_1924 : decode cL_law 1924 = .ok (.iadd, 1) := by decide +kernel
theorem dL_law_1925 : decode cL_law 1925 = .ok (.iaload, 1) := by decide +kernel
theorem dL_law_1926 : decode cL_law 1926 = .ok (.invokevirtual 225, 3) := by decide +kernel
theorem dL_law_1929 : decode cL_law 1929 = .ok (.if_icmp .eq 99, 3) := by decide +kernel
theorem dL_law_1932 : decode cL_law 1932 = .ok (.iconst 0, 1) := by decide +kernel
theorem dL_law_1933 : decode cL_law 1933 = .ok (.ireturn, 1) := by decide +kernel
theorem dL_law_1934 : decode cL_law 1934 = .ok (.aload_n 1, 1) := by decide +kernel
theorem dL_law_1935 : decode cL_law 1935 = .ok (.aload_n 0, 1) := by decide +kernel
theorem dL_law_1936 : decode cL_law 1936 = .ok (.iload 4, 2) := by decide +kernel
theorem dL_law_1938 : decode cL_law 1938 = .ok (.iconst 1, 1) := by decide +kernel
theorem dL_law_1939 : decode cL_law 1939 = .ok (.iadd, 1) := by decide +kernel
theorem dL_law_1940 : decode cL_law 1940 = .ok (.iaload, 1) := by decide +kernel
theorem dL_law_1941 : decode cL_law 1941 = .ok (.aload_n 3, 1) := by decide +kernel
theorem dL_law_1942 : decode cL_law 1942 = .ok (.invokestatic 226, 3) := by decide +kernel
theorem dL_law_1945 : decode cL_law 1945 = .ok (.istore 5, 2) := by decide +kernel
theorem dL_law_1947 : decode cL_law 1947 = .ok (.aload_n 2, 1) := by decide +kernel
theorem dL_law_1948 : decode cL_law 1948 = .ok (.aload_n 0, 1) := by decide +kernel
theorem dL_law_1949 : decode cL_law 1949 = .ok (.iload 4, 2) := by decide +kernel
theorem dL_law_1951 : decode cL_law 1951 = .ok (.iconst 1, 1) := by decide +kernel
theorem dL_law_1952 : decode cL_law 1952 = .ok (.iadd, 1) := by decide +kernel
theorem dL_law_1953 : decode cL_law 1953 = .ok (.iaload, 1) := by decide +kernel
theorem dL_law_1954 : decode cL_law 1954 = .ok (.invokevirtual 231, 3) := by decide +kernel
theorem dL_law_1957 : decode cL_law 1957 = .ok (.istore 6, 2) := by decide +kernel
theorem dL_law_1959 : decode cL_law 1959 = .ok (.aload_n 2, 1) := by decide +kernel
theorem dL_law_1960 : decode cL_law 1960 = .ok (.invokevirtual 232, 3) := by decide +kernel
theorem dL_law_1963 : decode cL_law 1963 = .ok (.iload 5, 2) := by decide +kernel
theorem dL_law_1965 : decode cL_law 1965 = .ok (.if_icmp .eq 5, 3) := by decide +kernel
theorem dL_law_1968 : decode cL_law 1968 = .ok (.iconst 0, 1) := by decide +kernel
theorem dL_law_1969 : decode cL_law 1969 = .ok (.ireturn, 1) := by decide +kernel
theorem dL_law_1970 : decode cL_law 1970 = .ok (.iload 5, 2) := by decide +kernel
theorem dL_law_1972 : decode cL_law 1972 = .ok (.ifCond .ne 15, 3) := by decide +kernel
theorem dL_law_1975 : decode cL_law 1975 = .ok (.aload_n 3, 1) := by decide +kernel
theorem dL_law_1976 : decode cL_law 1976 = .ok (.iconst 0, 1) := by decide +kernel
theorem dL_law_1977 : decode cL_law 1977 = .ok (.laload, 1) := by decide +kernel
theorem dL_law_1978 : decode cL_law 1978 = .ok (.iload 6, 2) := by decide +kernel
theorem dL_law_1980 : decode cL_law 1980 = .ok (.i2l, 1) := by decide +kernel
theorem dL_law_1981 : decode cL_law 1981 = .ok (.lcmp, 1) := by decide +kernel
theorem dL_law_1982 : decode cL_law 1982 = .ok (.ifCond .eq 5, 3) := by decide +kernel
theorem dL_law_1985 : decode cL_law 1985 = .ok (.iconst 0, 1) := by decide +kernel
theorem dL_law_1986 : decode cL_law 1986 = .ok (.ireturn, 1) := by decide +kernel
theorem dL_law_1987 : decode cL_law 1987 = .ok (.goto 41, 3) := by decide +kernel
theorem dL_law_1990 : decode cL_law 1990 = .ok (.aload_n 1, 1) := by decide +kernel
theorem dL_law_1991 : decode cL_law 1991 = .ok (.aload_n 0, 1) := by decide +kernel
theorem dL_law_1992 : decode cL_law 1992 = .ok (.iload 4, 2) := by decide +kernel
theorem dL_law_1994 : decode cL_law 1994 = .ok (.iconst 1, 1) := by decide +kernel
theorem dL_law_1995 : decode cL_law 1995 = .ok (.iadd, 1) := by decide +kernel
theorem dL_law_1996 : decode cL_law 1996 = .ok (.iaload, 1) := by decide +kernel
theorem dL_law_1997 : decode cL_law 1997 = .ok (.invokevirtual 235, 3) := by decide +kernel
theorem dL_law_2000 : decode cL_law 2000 = .ok (.aload_n 2, 1) := by decide +kernel
theorem dL_law_2001 : decode cL_law 2001 = .ok (.aload_n 0, 1) := by decide +kernel
theorem dL_law_2002 : decode cL_law 2002 = .ok (.iload 4, 2) := by decide +kernel
theorem dL_law_2004 : decode cL_law 2004 = .ok (.iconst 1, 1) := by decide +kernel
theorem dL_law_2005 : decode cL_law 2005 = .ok (.iadd, 1) := by decide +kernel
theorem dL_law_2006 : decode cL_law 2006 = .ok (.iaload, 1) := by decide +kernel
theorem dL_law_2007 : decode cL_law 2007 = .ok (.invokevirtual 238, 3) := by decide +kernel
theorem dL_law_2010 : decode cL_law 2010 = .ok (.if_icmp .eq 18, 3) := by decide +kernel
theorem dL_law_2013 : decode cL_law 2013 = .ok (.iconst 0, 1) := by decide +kernel
theorem dL_law_2014 : decode cL_law 2014 = .ok (.ireturn, 1) := by decide +kernel
theorem dL_law_2015 : decode cL_law 2015 = .ok (.aload_n 1, 1) := by decide +kernel
theorem dL_law_2016 : decode cL_law 2016 = .ok (.invokevirtual 239, 3) := by decide +kernel
theorem dL_law_2019 : decode cL_law 2019 = .ok (.aload_n 2, 1) := by decide +kernel
theorem dL_law_2020 : decode cL_law 2020 = .ok (.invokevirtual 242, 3) := by decide +kernel
theorem dL_law_2023 : decode cL_law 2023 = .ok (.if_icmp .eq 5, 3) := by decide +kernel
theorem dL_law_2026 : decode cL_law 2026 = .ok (.iconst 0, 1) := by decide +kernel
theorem dL_law_2027 : decode cL_law 2027 = .ok (.ireturn, 1) := by decide +kernel
theorem dL_law_2028 : decode cL_law 2028 = .ok (.iinc 4 6, 3) := by decide +kernel
theorem dL_law_2031 : decode cL_law 2031 = .ok (.goto (-2008), 3) := by decide +kernel
theorem dL_law_2034 : decode cL_law 2034 = .ok (.iconst 1, 1) := by decide +kernel
theorem dL_law_2035 : decode cL_law 2035 = .ok (.ireturn, 1) := by decide +kernel
