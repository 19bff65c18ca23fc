section
/-! 17f.arm5.lean.txt -/
theorem dL_law_1530 : decode cL_law 1530 = .ok (.aload_n 1, 1) := de_43 (lb_95 (j := 10) (b := 43) rfl)
theorem dL_law_1531 : decode cL_law 1531 = .ok (.aload_n 0, 1) := de_42 (lb_95 (j := 11) (b := 42) rfl)
theorem dL_law_1532 : decode cL_law 1532 = .ok (.iload 5, 2) := de_21 (lb_95 (j := 12) (b := 21) rfl) (lb_95 (j := 13) (b := 5) rfl) rfl
theorem dL_law_1534 : decode cL_law 1534 = .ok (.iconst 1, 1) := de_4 (lb_95 (j := 14) (b := 4) rfl)
theorem dL_law_1535 : decode cL_law 1535 = .ok (.iadd, 1) := de_96 (lb_95 (j := 15) (b := 96) rfl)
theorem dL_law_1536 : decode cL_law 1536 = .ok (.iaload, 1) := de_46 (lb_96 (j := 0) (b := 46) rfl)
theorem dL_law_1537 : decode cL_law 1537 = .ok (.aload_n 0, 1) := de_42 (lb_96 (j := 1) (b := 42) rfl)
theorem dL_law_1538 : decode cL_law 1538 = .ok (.iload 5, 2) := de_21 (lb_96 (j := 2) (b := 21) rfl) (lb_96 (j := 3) (b := 5) rfl) rfl
theorem dL_law_1540 : decode cL_law 1540 = .ok (.iconst 2, 1) := de_5 (lb_96 (j := 4) (b := 5) rfl)
theorem dL_law_1541 : decode cL_law 1541 = .ok (.iadd, 1) := de_96 (lb_96 (j := 5) (b := 96) rfl)
theorem dL_law_1542 : decode cL_law 1542 = .ok (.iaload, 1) := de_46 (lb_96 (j := 6) (b := 46) rfl)
theorem dL_law_1543 : decode cL_law 1543 = .ok (.aload_n 3, 1) := de_45 (lb_96 (j := 7) (b := 45) rfl)
theorem dL_law_1544 : decode cL_law 1544 = .ok (.invokestatic 330, 3) := de_184 (lb_96 (j := 8) (b := 184) rfl) (lb_96 (j := 9) (b := 1) rfl) (lb_96 (j := 10) (b := 74) rfl) rfl
theorem dL_law_1547 : decode cL_law 1547 = .ok (.istore 6, 2) := de_54 (lb_96 (j := 11) (b := 54) rfl) (lb_96 (j := 12) (b := 6) rfl) rfl
theorem dL_law_1549 : decode cL_law 1549 = .ok (.aload_n 2, 1) := de_44 (lb_96 (j := 13) (b := 44) rfl)
theorem dL_law_1550 : decode cL_law 1550 = .ok (.aload_n 0, 1) := de_42 (lb_96 (j := 14) (b := 42) rfl)
theorem dL_law_1551 : decode cL_law 1551 = .ok (.iload 5, 2) := de_21 (lb_96 (j := 15) (b := 21) rfl) (lb_97 (j := 0) (b := 5) rfl) rfl
theorem dL_law_1553 : decode cL_law 1553 = .ok (.iconst 1, 1) := de_4 (lb_97 (j := 1) (b := 4) rfl)
theorem dL_law_1554 : decode cL_law 1554 = .ok (.iadd, 1) := de_96 (lb_97 (j := 2) (b := 96) rfl)
theorem dL_law_1555 : decode cL_law 1555 = .ok (.iaload, 1) := de_46 (lb_97 (j := 3) (b := 46) rfl)
theorem dL_law_1556 : decode cL_law 1556 = .ok (.aload_n 0, 1) := de_42 (lb_97 (j := 4) (b := 42) rfl)
theorem dL_law_1557 : decode cL_law 1557 = .ok (.iload 5, 2) := de_21 (lb_97 (j := 5) (b := 21) rfl) (lb_97 (j := 6) (b := 5) rfl) rfl
theorem dL_law_1559 : decode cL_law 1559 = .ok (.iconst 2, 1) := de_5 (lb_97 (j := 7) (b := 5) rfl)
theorem dL_law_1560 : decode cL_law 1560 = .ok (.iadd, 1) := de_96 (lb_97 (j := 8) (b := 96) rfl)
theorem dL_law_1561 : decode cL_law 1561 = .ok (.iaload, 1) := de_46 (lb_97 (j := 9) (b := 46) rfl)
theorem dL_law_1562 : decode cL_law 1562 = .ok (.invokevirtual 332, 3) := de_182 (lb_97 (j := 10) (b := 182) rfl) (lb_97 (j := 11) (b := 1) rfl) (lb_97 (j := 12) (b := 76) rfl) rfl
theorem dL_law_1565 : decode cL_law 1565 = .ok (.istore 7, 2) := de_54 (lb_97 (j := 13) (b := 54) rfl) (lb_97 (j := 14) (b := 7) rfl) rfl
theorem dL_law_1567 : decode cL_law 1567 = .ok (.goto 872, 3) := de_167 (lb_97 (j := 15) (b := 167) rfl) (lb_98 (j := 0) (b := 3) rfl) (lb_98 (j := 1) (b := 104) rfl) (by decide +kernel)
theorem dL_law_1570 : decode cL_law 1570 = .ok (.aload_n 1, 1) := de_43 (lb_98 (j := 2) (b := 43) rfl)
theorem dL_law_1571 : decode cL_law 1571 = .ok (.aload_n 0, 1) := de_42 (lb_98 (j := 3) (b := 42) rfl)
theorem dL_law_1572 : decode cL_law 1572 = .ok (.iload 5, 2) := de_21 (lb_98 (j := 4) (b := 21) rfl) (lb_98 (j := 5) (b := 5) rfl) rfl
theorem dL_law_1574 : decode cL_law 1574 = .ok (.iconst 1, 1) := de_4 (lb_98 (j := 6) (b := 4) rfl)
theorem dL_law_1575 : decode cL_law 1575 = .ok (.iadd, 1) := de_96 (lb_98 (j := 7) (b := 96) rfl)
theorem dL_law_1576 : decode cL_law 1576 = .ok (.iaload, 1) := de_46 (lb_98 (j := 8) (b := 46) rfl)
theorem dL_law_1577 : decode cL_law 1577 = .ok (.aload_n 0, 1) := de_42 (lb_98 (j := 9) (b := 42) rfl)
theorem dL_law_1578 : decode cL_law 1578 = .ok (.iload 5, 2) := de_21 (lb_98 (j := 10) (b := 21) rfl) (lb_98 (j := 11) (b := 5) rfl) rfl
theorem dL_law_1580 : decode cL_law 1580 = .ok (.iconst 2, 1) := de_5 (lb_98 (j := 12) (b := 5) rfl)
theorem dL_law_1581 : decode cL_law 1581 = .ok (.iadd, 1) := de_96 (lb_98 (j := 13) (b := 96) rfl)
theorem dL_law_1582 : decode cL_law 1582 = .ok (.iaload, 1) := de_46 (lb_98 (j := 14) (b := 46) rfl)
theorem dL_law_1583 : decode cL_law 1583 = .ok (.aload_n 0, 1) := de_42 (lb_98 (j := 15) (b := 42) rfl)
theorem dL_law_1584 : decode cL_law 1584 = .ok (.iload 5, 2) := de_21 (lb_99 (j := 0) (b := 21) rfl) (lb_99 (j := 1) (b := 5) rfl) rfl
theorem dL_law_1586 : decode cL_law 1586 = .ok (.iconst 3, 1) := de_6 (lb_99 (j := 2) (b := 6) rfl)
theorem dL_law_1587 : decode cL_law 1587 = .ok (.iadd, 1) := de_96 (lb_99 (j := 3) (b := 96) rfl)
theorem dL_law_1588 : decode cL_law 1588 = .ok (.iaload, 1) := de_46 (lb_99 (j := 4) (b := 46) rfl)
theorem dL_law_1589 : decode cL_law 1589 = .ok (.aload_n 3, 1) := de_45 (lb_99 (j := 5) (b := 45) rfl)
theorem dL_law_1590 : decode cL_law 1590 = .ok (.invokestatic 333, 3) := de_184 (lb_99 (j := 6) (b := 184) rfl) (lb_99 (j := 7) (b := 1) rfl) (lb_99 (j := 8) (b := 77) rfl) rfl
theorem dL_law_1593 : decode cL_law 1593 = .ok (.istore 6, 2) := de_54 (lb_99 (j := 9) (b := 54) rfl) (lb_99 (j := 10) (b := 6) rfl) rfl
theorem dL_law_1595 : decode cL_law 1595 = .ok (.aload_n 2, 1) := de_44 (lb_99 (j := 11) (b := 44) rfl)
theorem dL_law_1596 : decode cL_law 1596 = .ok (.aload_n 0, 1) := de_42 (lb_99 (j := 12) (b := 42) rfl)
theorem dL_law_1597 : decode cL_law 1597 = .ok (.iload 5, 2) := de_21 (lb_99 (j := 13) (b := 21) rfl) (lb_99 (j := 14) (b := 5) rfl) rfl
theorem dL_law_1599 : decode cL_law 1599 = .ok (.iconst 1, 1) := de_4 (lb_99 (j := 15) (b := 4) rfl)
theorem dL_law_1600 : decode cL_law 1600 = .ok (.iadd, 1) := de_96 (lb_100 (j := 0) (b := 96) rfl)
theorem dL_law_1601 : decode cL_law 1601 = .ok (.iaload, 1) := de_46 (lb_100 (j := 1) (b := 46) rfl)
theorem dL_law_1602 : decode cL_law 1602 = .ok (.aload_n 0, 1) := de_42 (lb_100 (j := 2) (b := 42) rfl)
theorem dL_law_1603 : decode cL_law 1603 = .ok (.iload 5, 2) := de_21 (lb_100 (j := 3) (b := 21) rfl) (lb_100 (j := 4) (b := 5) rfl) rfl
theorem dL_law_1605 : decode cL_law 1605 = .ok (.iconst 2, 1) := de_5 (lb_100 (j := 5) (b := 5) rfl)
theorem dL_law_1606 : decode cL_law 1606 = .ok (.iadd, 1) := de_96 (lb_100 (j := 6) (b := 96) rfl)
theorem dL_law_1607 : decode cL_law 1607 = .ok (.iaload, 1) := de_46 (lb_100 (j := 7) (b := 46) rfl)
theorem dL_law_1608 : decode cL_law 1608 = .ok (.aload_n 0, 1) := de_42 (lb_100 (j := 8) (b := 42) rfl)
theorem dL_law_1609 : decode cL_law 1609 = .ok (.iload 5, 2) := de_21 (lb_100 (j := 9) (b := 21) rfl) (lb_100 (j := 10) (b := 5) rfl) rfl
theorem dL_law_1611 : decode cL_law 1611 = .ok (.iconst 3, 1) := de_6 (lb_100 (j := 11) (b := 6) rfl)
theorem dL_law_1612 : decode cL_law 1612 = .ok (.iadd, 1) := de_96 (lb_100 (j := 12) (b := 96) rfl)
theorem dL_law_1613 : decode cL_law 1613 = .ok (.iaload, 1) := de_46 (lb_100 (j := 13) (b := 46) rfl)
theorem dL_law_1614 : decode cL_law 1614 = .ok (.invokevirtual 335, 3) := de_182 (lb_100 (j := 14) (b := 182) rfl) (lb_100 (j := 15) (b := 1) rfl) (lb_101 (j := 0) (b := 79) rfl) rfl
theorem dL_law_1617 : decode cL_law 1617 = .ok (.lstore 7, 2) := de_55 (lb_101 (j := 1) (b := 55) rfl) (lb_101 (j := 2) (b := 7) rfl) rfl
theorem dL_law_1619 : decode cL_law 1619 = .ok (.goto 820, 3) := de_167 (lb_101 (j := 3) (b := 167) rfl) (lb_101 (j := 4) (b := 3) rfl) (lb_101 (j := 5) (b := 52) rfl) (by decide +kernel)
theorem dL_law_1622 : decode cL_law 1622 = .ok (.aload_n 1, 1) := de_43 (lb_101 (j := 6) (b := 43) rfl)
theorem dL_law_1623 : decode cL_law 1623 = .ok (.aload_n 0, 1) := de_42 (lb_101 (j := 7) (b := 42) rfl)
theorem dL_law_1624 : decode cL_law 1624 = .ok (.iload 5, 2) := de_21 (lb_101 (j := 8) (b := 21) rfl) (lb_101 (j := 9) (b := 5) rfl) rfl
theorem dL_law_1626 : decode cL_law 1626 = .ok (.iconst 1, 1) := de_4 (lb_101 (j := 10) (b := 4) rfl)
theorem dL_law_1627 : decode cL_law 1627 = .ok (.iadd, 1) := de_96 (lb_101 (j := 11) (b := 96) rfl)
theorem dL_law_1628 : decode cL_law 1628 = .ok (.iaload, 1) := de_46 (lb_101 (j := 12) (b := 46) rfl)
theorem dL_law_1629 : decode cL_law 1629 = .ok (.aload_n 0, 1) := de_42 (lb_101 (j := 13) (b := 42) rfl)
theorem dL_law_1630 : decode cL_law 1630 = .ok (.iload 5, 2) := de_21 (lb_101 (j := 14) (b := 21) rfl) (lb_101 (j := 15) (b := 5) rfl) rfl
theorem dL_law_1632 : decode cL_law 1632 = .ok (.iconst 2, 1) := de_5 (lb_102 (j := 0) (b := 5) rfl)
theorem dL_law_1633 : decode cL_law 1633 = .ok (.iadd, 1) := de_96 (lb_102 (j := 1) (b := 96) rfl)
theorem dL_law_1634 : decode cL_law 1634 = .ok (.iaload, 1) := de_46 (lb_102 (j := 2) (b := 46) rfl)
theorem dL_law_1635 : decode cL_law 1635 = .ok (.aload_n 0, 1) := de_42 (lb_102 (j := 3) (b := 42) rfl)
theorem dL_law_1636 : decode cL_law 1636 = .ok (.iload 5, 2) := de_21 (lb_102 (j := 4) (b := 21) rfl) (lb_102 (j := 5) (b := 5) rfl) rfl
theorem dL_law_1638 : decode cL_law 1638 = .ok (.iconst 3, 1) := de_6 (lb_102 (j := 6) (b := 6) rfl)
theorem dL_law_1639 : decode cL_law 1639 = .ok (.iadd, 1) := de_96 (lb_102 (j := 7) (b := 96) rfl)
theorem dL_law_1640 : decode cL_law 1640 = .ok (.iaload, 1) := de_46 (lb_102 (j := 8) (b := 46) rfl)
theorem dL_law_1641 : decode cL_law 1641 = .ok (.aload_n 3, 1) := de_45 (lb_102 (j := 9) (b := 45) rfl)
theorem dL_law_1642 : decode cL_law 1642 = .ok (.invokestatic 336, 3) := de_184 (lb_102 (j := 10) (b := 184) rfl) (lb_102 (j := 11) (b := 1) rfl) (lb_102 (j := 12) (b := 80) rfl) rfl
theorem dL_law_1645 : decode cL_law 1645 = .ok (.istore 6, 2) := de_54 (lb_102 (j := 13) (b := 54) rfl) (lb_102 (j := 14) (b := 6) rfl) rfl
theorem dL_law_1647 : decode cL_law 1647 = .ok (.aload_n 2, 1) := de_44 (lb_102 (j := 15) (b := 44) rfl)
theorem dL_law_1648 : decode cL_law 1648 = .ok (.aload_n 0, 1) := de_42 (lb_103 (j := 0) (b := 42) rfl)
theorem dL_law_1649 : decode cL_law 1649 = .ok (.iload 5, 2) := de_21 (lb_103 (j := 1) (b := 21) rfl) (lb_103 (j := 2) (b := 5) rfl) rfl
theorem dL_law_1651 : decode cL_law 1651 = .ok (.iconst 1, 1) := de_4 (lb_103 (j := 3) (b := 4) rfl)
theorem dL_law_1652 : decode cL_law 1652 = .ok (.iadd, 1) := de_96 (lb_103 (j := 4) (b := 96) rfl)
theorem dL_law_1653 : decode cL_law 1653 = .ok (.iaload, 1) := de_46 (lb_103 (j := 5) (b := 46) rfl)
theorem dL_law_1654 : decode cL_law 1654 = .ok (.aload_n 0, 1) := de_42 (lb_103 (j := 6) (b := 42) rfl)
theorem dL_law_1655 : decode cL_law 1655 = .ok (.iload 5, 2) := de_21 (lb_103 (j := 7) (b := 21) rfl) (lb_103 (j := 8) (b := 5) rfl) rfl
theorem dL_law_1657 : decode cL_law 1657 = .ok (.iconst 2, 1) := de_5 (lb_103 (j := 9) (b := 5) rfl)
theorem dL_law_1658 : decode cL_law 1658 = .ok (.iadd, 1) := de_96 (lb_103 (j := 10) (b := 96) rfl)
theorem dL_law_1659 : decode cL_law 1659 = .ok (.iaload, 1) := de_46 (lb_103 (j := 11) (b := 46) rfl)
theorem dL_law_1660 : decode cL_law 1660 = .ok (.aload_n 0, 1) := de_42 (lb_103 (j := 12) (b := 42) rfl)
theorem dL_law_1661 : decode cL_law 1661 = .ok (.iload 5, 2) := de_21 (lb_103 (j := 13) (b := 21) rfl) (lb_103 (j := 14) (b := 5) rfl) rfl
theorem dL_law_1663 : decode cL_law 1663 = .ok (.iconst 3, 1) := de_6 (lb_103 (j := 15) (b := 6) rfl)
theorem dL_law_1664 : decode cL_law 1664 = .ok (.iadd, 1) := de_96 (lb_104 (j := 0) (b := 96) rfl)
theorem dL_law_1665 : decode cL_law 1665 = .ok (.iaload, 1) := de_46 (lb_104 (j := 1) (b := 46) rfl)
theorem dL_law_1666 : decode cL_law 1666 = .ok (.invokevirtual 338, 3) := de_182 (lb_104 (j := 2) (b := 182) rfl) (lb_104 (j := 3) (b := 1) rfl) (lb_104 (j := 4) (b := 82) rfl) rfl
theorem dL_law_1669 : decode cL_law 1669 = .ok (.istore 7, 2) := de_54 (lb_104 (j := 5) (b := 54) rfl) (lb_104 (j := 6) (b := 7) rfl) rfl
theorem dL_law_1671 : decode cL_law 1671 = .ok (.goto 768, 3) := de_167 (lb_104 (j := 7) (b := 167) rfl) (lb_104 (j := 8) (b := 3) rfl) (lb_104 (j := 9) (b := 0) rfl) (by decide +kernel)
theorem dL_law_1674 : decode cL_law 1674 = .ok (.aload_n 1, 1) := de_43 (lb_104 (j := 10) (b := 43) rfl)
theorem dL_law_1675 : decode cL_law 1675 = .ok (.aload_n 0, 1) := de_42 (lb_104 (j := 11) (b := 42) rfl)
theorem dL_law_1676 : decode cL_law 1676 = .ok (.iload 5, 2) := de_21 (lb_104 (j := 12) (b := 21) rfl) (lb_104 (j := 13) (b := 5) rfl) rfl
theorem dL_law_1678 : decode cL_law 1678 = .ok (.iconst 1, 1) := de_4 (lb_104 (j := 14) (b := 4) rfl)
theorem dL_law_1679 : decode cL_law 1679 = .ok (.iadd, 1) := de_96 (lb_104 (j := 15) (b := 96) rfl)
theorem dL_law_1680 : decode cL_law 1680 = .ok (.iaload, 1) := de_46 (lb_105 (j := 0) (b := 46) rfl)
theorem dL_law_1681 : decode cL_law 1681 = .ok (.aload_n 0, 1) := de_42 (lb_105 (j := 1) (b := 42) rfl)
theorem dL_law_1682 : decode cL_law 1682 = .ok (.iload 5, 2) := de_21 (lb_105 (j := 2) (b := 21) rfl) (lb_105 (j := 3) (b := 5) rfl) rfl
theorem dL_law_1684 : decode cL_law 1684 = .ok (.iconst 2, 1) := de_5 (lb_105 (j := 4) (b := 5) rfl)
theorem dL_law_1685 : decode cL_law 1685 = .ok (.iadd, 1) := de_96 (lb_105 (j := 5) (b := 96) rfl)
theorem dL_law_1686 : decode cL_law 1686 = .ok (.iaload, 1) := de_46 (lb_105 (j := 6) (b := 46) rfl)
theorem dL_law_1687 : decode cL_law 1687 = .ok (.aload_n 0, 1) := de_42 (lb_105 (j := 7) (b := 42) rfl)
theorem dL_law_1688 : decode cL_law 1688 = .ok (.iload 5, 2) := de_21 (lb_105 (j := 8) (b := 21) rfl) (lb_105 (j := 9) (b := 5) rfl) rfl
theorem dL_law_1690 : decode cL_law 1690 = .ok (.iconst 3, 1) := de_6 (lb_105 (j := 10) (b := 6) rfl)
theorem dL_law_1691 : decode cL_law 1691 = .ok (.iadd, 1) := de_96 (lb_105 (j := 11) (b := 96) rfl)
theorem dL_law_1692 : decode cL_law 1692 = .ok (.iaload, 1) := de_46 (lb_105 (j := 12) (b := 46) rfl)
theorem dL_law_1693 : decode cL_law 1693 = .ok (.aload_n 3, 1) := de_45 (lb_105 (j := 13) (b := 45) rfl)
theorem dL_law_1694 : decode cL_law 1694 = .ok (.invokestatic 339, 3) := de_184 (lb_105 (j := 14) (b := 184) rfl) (lb_105 (j := 15) (b := 1) rfl) (lb_106 (j := 0) (b := 83) rfl) rfl
theorem dL_law_1697 : decode cL_law 1697 = .ok (.istore 6, 2) := de_54 (lb_106 (j := 1) (b := 54) rfl) (lb_106 (j := 2) (b := 6) rfl) rfl
theorem dL_law_1699 : decode cL_law 1699 = .ok (.aload_n 2, 1) := de_44 (lb_106 (j := 3) (b := 44) rfl)
theorem dL_law_1700 : decode cL_law 1700 = .ok (.aload_n 0, 1) := de_42 (lb_106 (j := 4) (b := 42) rfl)
theorem dL_law_1701 : decode cL_law 1701 = .ok (.iload 5, 2) := de_21 (lb_106 (j := 5) (b := 21) rfl) (lb_106 (j := 6) (b := 5) rfl) rfl
theorem dL_law_1703 : decode cL_law 1703 = .ok (.iconst 1, 1) := de_4 (lb_106 (j := 7) (b := 4) rfl)
theorem dL_law_1704 : decode cL_law 1704 = .ok (.iadd, 1) := de_96 (lb_106 (j := 8) (b := 96) rfl)
theorem dL_law_1705 : decode cL_law 1705 = .ok (.iaload, 1) := de_46 (lb_106 (j := 9) (b := 46) rfl)
theorem dL_law_1706 : decode cL_law 1706 = .ok (.aload_n 0, 1) := de_42 (lb_106 (j := 10) (b := 42) rfl)
theorem dL_law_1707 : decode cL_law 1707 = .ok (.iload 5, 2) := de_21 (lb_106 (j := 11) (b := 21) rfl) (lb_106 (j := 12) (b := 5) rfl) rfl
theorem dL_law_1709 : decode cL_law 1709 = .ok (.iconst 2, 1) := de_5 (lb_106 (j := 13) (b := 5) rfl)
theorem dL_law_1710 : decode cL_law 1710 = .ok (.iadd, 1) := de_96 (lb_106 (j := 14) (b := 96) rfl)
theorem dL_law_1711 : decode cL_law 1711 = .ok (.iaload, 1) := de_46 (lb_106 (j := 15) (b := 46) rfl)
theorem dL_law_1712 : decode cL_law 1712 = .ok (.aload_n 0, 1) := de_42 (lb_107 (j := 0) (b := 42) rfl)
theorem dL_law_1713 : decode cL_law 1713 = .ok (.iload 5, 2) := de_21 (lb_107 (j := 1) (b := 21) rfl) (lb_107 (j := 2) (b := 5) rfl) rfl
theorem dL_law_1715 : decode cL_law 1715 = .ok (.iconst 3, 1) := de_6 (lb_107 (j := 3) (b := 6) rfl)
theorem dL_law_1716 : decode cL_law 1716 = .ok (.iadd, 1) := de_96 (lb_107 (j := 4) (b := 96) rfl)
theorem dL_law_1717 : decode cL_law 1717 = .ok (.iaload, 1) := de_46 (lb_107 (j := 5) (b := 46) rfl)
theorem dL_law_1718 : decode cL_law 1718 = .ok (.invokevirtual 341, 3) := de_182 (lb_107 (j := 6) (b := 182) rfl) (lb_107 (j := 7) (b := 1) rfl) (lb_107 (j := 8) (b := 85) rfl) rfl
theorem dL_law_1721 : decode cL_law 1721 = .ok (.lstore 7, 2) := de_55 (lb_107 (j := 9) (b := 55) rfl) (lb_107 (j := 10) (b := 7) rfl) rfl
theorem dL_law_1723 : decode cL_law 1723 = .ok (.goto 716, 3) := de_167 (lb_107 (j := 11) (b := 167) rfl) (lb_107 (j := 12) (b := 2) rfl) (lb_107 (j := 13) (b := 204) rfl) (by decide +kernel)
theorem dL_law_1726 : decode cL_law 1726 = .ok (.aload_n 1, 1) := de_43 (lb_107 (j := 14) (b := 43) rfl)
theorem dL_law_1727 : decode cL_law 1727 = .ok (.aload_n 0, 1) := de_42 (lb_107 (j := 15) (b := 42) rfl)
theorem dL_law_1728 : decode cL_law 1728 = .ok (.iload 5, 2) := de_21 (lb_108 (j := 0) (b := 21) rfl) (lb_108 (j := 1) (b := 5) rfl) rfl
theorem dL_law_1730 : decode cL_law 1730 = .ok (.iconst 1, 1) := de_4 (lb_108 (j := 2) (b := 4) rfl)
theorem dL_law_1731 : decode cL_law 1731 = .ok (.iadd, 1) := de_96 (lb_108 (j := 3) (b := 96) rfl)
theorem dL_law_1732 : decode cL_law 1732 = .ok (.iaload, 1) := de_46 (lb_108 (j := 4) (b := 46) rfl)
theorem dL_law_1733 : decode cL_law 1733 = .ok (.aload_n 0, 1) := de_42 (lb_108 (j := 5) (b := 42) rfl)
theorem dL_law_1734 : decode cL_law 1734 = .ok (.iload 5, 2) := de_21 (lb_108 (j := 6) (b := 21) rfl) (lb_108 (j := 7) (b := 5) rfl) rfl
theorem dL_law_1736 : decode cL_law 1736 = .ok (.iconst 2, 1) := de_5 (lb_108 (j := 8) (b := 5) rfl)
theorem dL_law_1737 : decode cL_law 1737 = .ok (.iadd, 1) := de_96 (lb_108 (j := 9) (b := 96) rfl)
theorem dL_law_1738 : decode cL_law 1738 = .ok (.iaload, 1) := de_46 (lb_108 (j := 10) (b := 46) rfl)
theorem dL_law_1739 : decode cL_law 1739 = .ok (.aload_n 0, 1) := de_42 (lb_108 (j := 11) (b := 42) rfl)
theorem dL_law_1740 : decode cL_law 1740 = .ok (.iload 5, 2) := de_21 (lb_108 (j := 12) (b := 21) rfl) (lb_108 (j := 13) (b := 5) rfl) rfl
theorem dL_law_1742 : decode cL_law 1742 = .ok (.iconst 3, 1) := de_6 (lb_108 (j := 14) (b := 6) rfl)
theorem dL_law_1743 : decode cL_law 1743 = .ok (.iadd, 1) := de_96 (lb_108 (j := 15) (b := 96) rfl)
theorem dL_law_1744 : decode cL_law 1744 = .ok (.iaload, 1) := de_46 (lb_109 (j := 0) (b := 46) rfl)
theorem dL_law_1745 : decode cL_law 1745 = .ok (.aload_n 3, 1) := de_45 (lb_109 (j := 1) (b := 45) rfl)
theorem dL_law_1746 : decode cL_law 1746 = .ok (.invokestatic 342, 3) := de_184 (lb_109 (j := 2) (b := 184) rfl) (lb_109 (j := 3) (b := 1) rfl) (lb_109 (j := 4) (b := 86) rfl) rfl
theorem dL_law_1749 : decode cL_law 1749 = .ok (.istore 6, 2) := de_54 (lb_109 (j := 5) (b := 54) rfl) (lb_109 (j := 6) (b := 6) rfl) rfl
theorem dL_law_1751 : decode cL_law 1751 = .ok (.aload_n 2, 1) := de_44 (lb_109 (j := 7) (b := 44) rfl)
theorem dL_law_1752 : decode cL_law 1752 = .ok (.aload_n 0, 1) := de_42 (lb_109 (j := 8) (b := 42) rfl)
theorem dL_law_1753 : decode cL_law 1753 = .ok (.iload 5, 2) := de_21 (lb_109 (j := 9) (b := 21) rfl) (lb_109 (j := 10) (b := 5) rfl) rfl
theorem dL_law_1755 : decode cL_law 1755 = .ok (.iconst 1, 1) := de_4 (lb_109 (j := 11) (b := 4) rfl)
theorem dL_law_1756 : decode cL_law 1756 = .ok (.iadd, 1) := de_96 (lb_109 (j := 12) (b := 96) rfl)
theorem dL_law_1757 : decode cL_law 1757 = .ok (.iaload, 1) := de_46 (lb_109 (j := 13) (b := 46) rfl)
theorem dL_law_1758 : decode cL_law 1758 = .ok (.aload_n 0, 1) := de_42 (lb_109 (j := 14) (b := 42) rfl)
theorem dL_law_1759 : decode cL_law 1759 = .ok (.iload 5, 2) := de_21 (lb_109 (j := 15) (b := 21) rfl) (lb_110 (j := 0) (b := 5) rfl) rfl
theorem dL_law_1761 : decode cL_law 1761 = .ok (.iconst 2, 1) := de_5 (lb_110 (j := 1) (b := 5) rfl)
theorem dL_law_1762 : decode cL_law 1762 = .ok (.iadd, 1) := de_96 (lb_110 (j := 2) (b := 96) rfl)
theorem dL_law_1763 : decode cL_law 1763 = .ok (.iaload, 1) := de_46 (lb_110 (j := 3) (b := 46) rfl)
theorem dL_law_1764 : decode cL_law 1764 = .ok (.aload_n 0, 1) := de_42 (lb_110 (j := 4) (b := 42) rfl)
theorem dL_law_1765 : decode cL_law 1765 = .ok (.iload 5, 2) := de_21 (lb_110 (j := 5) (b := 21) rfl) (lb_110 (j := 6) (b := 5) rfl) rfl
theorem dL_law_1767 : decode cL_law 1767 = .ok (.iconst 3, 1) := de_6 (lb_110 (j := 7) (b := 6) rfl)
theorem dL_law_1768 : decode cL_law 1768 = .ok (.iadd, 1) := de_96 (lb_110 (j := 8) (b := 96) rfl)
theorem dL_law_1769 : decode cL_law 1769 = .ok (.iaload, 1) := de_46 (lb_110 (j := 9) (b := 46) rfl)
theorem dL_law_1770 : decode cL_law 1770 = .ok (.invokevirtual 344, 3) := de_182 (lb_110 (j := 10) (b := 182) rfl) (lb_110 (j := 11) (b := 1) rfl) (lb_110 (j := 12) (b := 88) rfl) rfl
theorem dL_law_1773 : decode cL_law 1773 = .ok (.istore 7, 2) := de_54 (lb_110 (j := 13) (b := 54) rfl) (lb_110 (j := 14) (b := 7) rfl) rfl
theorem dL_law_1775 : decode cL_law 1775 = .ok (.goto 664, 3) := de_167 (lb_110 (j := 15) (b := 167) rfl) (lb_111 (j := 0) (b := 2) rfl) (lb_111 (j := 1) (b := 152) rfl) (by decide +kernel)
theorem dL_law_1778 : decode cL_law 1778 = .ok (.aload_n 1, 1) := de_43 (lb_111 (j := 2) (b := 43) rfl)
theorem dL_law_1779 : decode cL_law 1779 = .ok (.aload_n 0, 1) := de_42 (lb_111 (j := 3) (b := 42) rfl)
theorem dL_law_1780 : decode cL_law 1780 = .ok (.iload 5, 2) := de_21 (lb_111 (j := 4) (b := 21) rfl) (lb_111 (j := 5) (b := 5) rfl) rfl
theorem dL_law_1782 : decode cL_law 1782 = .ok (.iconst 1, 1) := de_4 (lb_111 (j := 6) (b := 4) rfl)
theorem dL_law_1783 : decode cL_law 1783 = .ok (.iadd, 1) := de_96 (lb_111 (j := 7) (b := 96) rfl)
theorem dL_law_1784 : decode cL_law 1784 = .ok (.iaload, 1) := de_46 (lb_111 (j := 8) (b := 46) rfl)
theorem dL_law_1785 : decode cL_law 1785 = .ok (.aload_n 3, 1) := de_45 (lb_111 (j := 9) (b := 45) rfl)
theorem dL_law_1786 : decode cL_law 1786 = .ok (.invokestatic 345, 3) := de_184 (lb_111 (j := 10) (b := 184) rfl) (lb_111 (j := 11) (b := 1) rfl) (lb_111 (j := 12) (b := 89) rfl) rfl
theorem dL_law_1789 : decode cL_law 1789 = .ok (.istore 6, 2) := de_54 (lb_111 (j := 13) (b := 54) rfl) (lb_111 (j := 14) (b := 6) rfl) rfl
theorem dL_law_1791 : decode cL_law 1791 = .ok (.aload_n 2, 1) := de_44 (lb_111 (j := 15) (b := 44) rfl)
theorem dL_law_1792 : decode cL_law 1792 = .ok (.aload_n 0, 1) := de_42 (lb_112 (j := 0) (b := 42) rfl)
theorem dL_law_1793 : decode cL_law 1793 = .ok (.iload 5, 2) := de_21 (lb_112 (j := 1) (b := 21) rfl) (lb_112 (j := 2) (b := 5) rfl) rfl
theorem dL_law_1795 : decode cL_law 1795 = .ok (.iconst 1, 1) := de_4 (lb_112 (j := 3) (b := 4) rfl)
theorem dL_law_1796 : decode cL_law 1796 = .ok (.iadd, 1) := de_96 (lb_112 (j := 4) (b := 96) rfl)
theorem dL_law_1797 : decode cL_law 1797 = .ok (.iaload, 1) := de_46 (lb_112 (j := 5) (b := 46) rfl)
theorem dL_law_1798 : decode cL_law 1798 = .ok (.invokevirtual 347, 3) := de_182 (lb_112 (j := 6) (b := 182) rfl) (lb_112 (j := 7) (b := 1) rfl) (lb_112 (j := 8) (b := 91) rfl) rfl
theorem dL_law_1801 : decode cL_law 1801 = .ok (.lstore 7, 2) := de_55 (lb_112 (j := 9) (b := 55) rfl) (lb_112 (j := 10) (b := 7) rfl) rfl
theorem dL_law_1803 : decode cL_law 1803 = .ok (.goto 636, 3) := de_167 (lb_112 (j := 11) (b := 167) rfl) (lb_112 (j := 12) (b := 2) rfl) (lb_112 (j := 13) (b := 124) rfl) (by decide +kernel)
theorem dL_law_1806 : decode cL_law 1806 = .ok (.aload_n 1, 1) := de_43 (lb_112 (j := 14) (b := 43) rfl)
theorem dL_law_1807 : decode cL_law 1807 = .ok (.aload_n 0, 1) := de_42 (lb_112 (j := 15) (b := 42) rfl)
theorem dL_law_1808 : decode cL_law 1808 = .ok (.iload 5, 2) := de_21 (lb_113 (j := 0) (b := 21) rfl) (lb_113 (j := 1) (b := 5) rfl) rfl
theorem dL_law_1810 : decode cL_law 1810 = .ok (.iconst 1, 1) := de_4 (lb_113 (j := 2) (b := 4) rfl)
theorem dL_law_1811 : decode cL_law 1811 = .ok (.iadd, 1) := de_96 (lb_113 (j := 3) (b := 96) rfl)
theorem dL_law_1812 : decode cL_law 1812 = .ok (.iaload, 1) := de_46 (lb_113 (j := 4) (b := 46) rfl)
theorem dL_law_1813 : decode cL_law 1813 = .ok (.aload_n 3, 1) := de_45 (lb_113 (j := 5) (b := 45) rfl)
theorem dL_law_1814 : decode cL_law 1814 = .ok (.invokestatic 348, 3) := de_184 (lb_113 (j := 6) (b := 184) rfl) (lb_113 (j := 7) (b := 1) rfl) (lb_113 (j := 8) (b := 92) rfl) rfl
theorem dL_law_1817 : decode cL_law 1817 = .ok (.istore 6, 2) := de_54 (lb_113 (j := 9) (b := 54) rfl) (lb_113 (j := 10) (b := 6) rfl) rfl
theorem dL_law_1819 : decode cL_law 1819 = .ok (.aload_n 2, 1) := de_44 (lb_113 (j := 11) (b := 44) rfl)
theorem dL_law_1820 : decode cL_law 1820 = .ok (.aload_n 0, 1) := de_42 (lb_113 (j := 12) (b := 42) rfl)
theorem dL_law_1821 : decode cL_law 1821 = .ok (.iload 5, 2) := de_21 (lb_113 (j := 13) (b := 21) rfl) (lb_113 (j := 14) (b := 5) rfl) rfl
theorem dL_law_1823 : decode cL_law 1823 = .ok (.iconst 1, 1) := de_4 (lb_113 (j := 15) (b := 4) rfl)
theorem dL_law_1824 : decode cL_law 1824 = .ok (.iadd, 1) := de_96 (lb_114 (j := 0) (b := 96) rfl)
theorem dL_law_1825 : decode cL_law 1825 = .ok (.iaload, 1) := de_46 (lb_114 (j := 1) (b := 46) rfl)
theorem dL_law_1826 : decode cL_law 1826 = .ok (.invokevirtual 350, 3) := de_182 (lb_114 (j := 2) (b := 182) rfl) (lb_114 (j := 3) (b := 1) rfl) (lb_114 (j := 4) (b := 94) rfl) rfl
theorem dL_law_1829 : decode cL_law 1829 = .ok (.istore 7, 2) := de_54 (lb_114 (j := 5) (b := 54) rfl) (lb_114 (j := 6) (b := 7) rfl) rfl
theorem dL_law_1831 : decode cL_law 1831 = .ok (.goto 608, 3) := de_167 (lb_114 (j := 7) (b := 167) rfl) (lb_114 (j := 8) (b := 2) rfl) (lb_114 (j := 9) (b := 96) rfl) (by decide +kernel)
theorem dL_law_1834 : decode cL_law 1834 = .ok (.aload_n 1, 1) := de_43 (lb_114 (j := 10) (b := 43) rfl)
theorem dL_law_1835 : decode cL_law 1835 = .ok (.aload_n 3, 1) := de_45 (lb_114 (j := 11) (b := 45) rfl)
theorem dL_law_1836 : decode cL_law 1836 = .ok (.invokestatic 351, 3) := de_184 (lb_114 (j := 12) (b := 184) rfl) (lb_114 (j := 13) (b := 1) rfl) (lb_114 (j := 14) (b := 95) rfl) rfl
theorem dL_law_1839 : decode cL_law 1839 = .ok (.istore 6, 2) := de_54 (lb_114 (j := 15) (b := 54) rfl) (lb_115 (j := 0) (b := 6) rfl) rfl
theorem dL_law_1841 : decode cL_law 1841 = .ok (.aload_n 2, 1) := de_44 (lb_115 (j := 1) (b := 44) rfl)
theorem dL_law_1842 : decode cL_law 1842 = .ok (.invokevirtual 353, 3) := de_182 (lb_115 (j := 2) (b := 182) rfl) (lb_115 (j := 3) (b := 1) rfl) (lb_115 (j := 4) (b := 97) rfl) rfl
theorem dL_law_1845 : decode cL_law 1845 = .ok (.istore 7, 2) := de_54 (lb_115 (j := 5) (b := 54) rfl) (lb_115 (j := 6) (b := 7) rfl) rfl
theorem dL_law_1847 : decode cL_law 1847 = .ok (.goto 592, 3) := de_167 (lb_115 (j := 7) (b := 167) rfl) (lb_115 (j := 8) (b := 2) rfl) (lb_115 (j := 9) (b := 80) rfl) (by decide +kernel)
set_option maxHeartbeats 4000000 in
set_option maxRecDepth 100000 in
theorem y_a40 {p : Program} {e : Env} {s : State} {m : MethodId} {below : List Frame} {meth : Method} {c : Code} (l : Launch) (hst : l.stackTraces = false) {b L : Nat} {xs : Nat → Int32} (hx : p.tables.exec = Jvm.exec) (hb : c.code = code) (hml : c.maxLocals = 9) (hown : s.vm.findClass RL = some m.cls) (hts : ∀ w ∈ lw_tbl, w.before #[Value.ref b] s = true) (hX0 : va_X b L xs s s.heap) (hbl : b < s.heap.size) (hX : xT (fun q => s.heap.size ≤ q) s) (hN : nC s) (hTS : sAll s.heap.size s) {D : va_G} {cI cJ cZ cMic cSrc cSt cAI cAJ cD : ClassId} (hK : va_K D vwCl (CT cI cJ cZ cMic cSrc cSt cAI cAJ ++ [(cD, .double)]) s) {Q : State → Prop} {i j : Nat} (hi : i + 6 ≤ L) (hL : L ≤ 3072) (hj : j < 512) {aj ae : Nat} {ad am : Nat → Nat} {T : AT} {Sm : MS} {f : Nat → Int64} {g : Nat → UInt64} {ls : Array Slot} {H : Heap} {locs : List Loc} (hV : IV aR0 1586 aK1 aK2 T) (hrc : RC T) (hJ : JJ Sm) (G : gL cI cJ cZ cMic cSrc cSt cAI cAJ D ad (fun q => s.heap.size ≤ q) s.heap H locs T (oJ aj cJ f :: oD ae cD g :: MW cI cJ cZ am Sm)) (hl : lv_has ls 9 [(5, .int (nI i)), (4, .ref ae), (3, .ref aj), (2, .ref (am 0)), (1, .ref (ad 0)), (0, .ref b)]) (kk : ∀ {k1 : Nat} {r1 : Int32} {T1 : AT} {r2 : Int32} {S1 : MS} (ad2 : Nat → Nat) (f1 : Nat → Int64) (g1 : Nat → UInt64) (H1 : Heap) (locs1 : List Loc) (ls1 : Array Slot), g_X11_trackCell T 0 (xs (i + 1)) (xs (i + 2)) = some (k1, r1, T1) → fr_trackCell Sm (xs (i + 1)) (xs (i + 2)) = some (r2, S1) → ad2 0 = ad 0 → IV aR0 1586 aK1 aK2 T1 → RC T1 → JJ S1 → gL cI cJ cZ cMic cSrc cSt cAI cAJ D ad2 (fun q => s.heap.size ≤ q) s.heap H1 locs1 T1 (oJ aj cJ f1 :: oD ae cD g1 :: MW cI cJ cZ am S1) → lv_has ls1 9 [(5, .int (nI i)), (4, .ref ae), (3, .ref aj), (2, .ref (am 0)), (1, .ref (ad2 0)), (0, .ref b)] → W p l e room_1 s m #[Value.ref b] below meth c H1 locs1 (19 + T1.1 + (j + 1)) (38467 + sg T1 + 6 * (j + 1)) Q (F0 m 2439 ls1 [])) : W p l e room_1 s m #[Value.ref b] below meth c H locs (19 + T.1 + j) (38467 + sg T + 6 * j) Q (F0 m 1530 ls []) := by
  have E : cE p c cL_law s m #[Value.ref b] lw_tbl D RL (CT cI cJ cZ cMic cSrc cSt cAI cAJ ++ [(cD, .double)]) := ⟨hx, hb, hts, hown, hK⟩
  have hA : ∀ q : Nat, s.heap.size ≤ q → s.heap.size ≤ q := fun _ h => h
  have h0T : 0 < T.1 := Nat.lt_of_lt_of_le (by decide) hV.1.2.2
  have h0s : T.2.1 0 = (11, 0) := hV.2.1 0 ⟨by decide, by decide +kernel, by decide +kernel⟩
  refine lv_aload_n hx hb dL_law_1530 rfl (lv_at hl 4 rfl) ?_
  refine lv_aload_n hx hb dL_law_1531 rfl (lv_at hl 5 rfl) ?_
  refine lv_iload hx hb dL_law_1532 (lv_at hl 0 rfl) ?_
  refine lv_iconst (v := 1) hx hb dL_law_1534 (by decide) ?_
  refine lv_iadd hx hb dL_law_1535 ?_
  refine lv_to (y := nI (i + 1)) (nI_add i 1) ?_
  refine va_sld hx hb hX0 hbl (Nat.not_le.mpr hbl) G.2.2 (i := nI (i + 1)) (vp_in_nI (n := i + 1) (N := L) (by omega) (by omega)) dL_law_1536 ?_
  refine lv_to (y := xs (i + 1)) (congrArg xs (nI_clamp (by omega))) ?_
  refine lv_aload_n hx hb dL_law_1537 rfl (lv_at hl 5 rfl) ?_
  refine lv_iload hx hb dL_law_1538 (lv_at hl 0 rfl) ?_
  refine lv_iconst (v := 2) hx hb dL_law_1540 (by decide) ?_
  refine lv_iadd hx hb dL_law_1541 ?_
  refine lv_to (y := nI (i + 2)) (nI_add i 2) ?_
  refine va_sld hx hb hX0 hbl (Nat.not_le.mpr hbl) G.2.2 (i := nI (i + 2)) (vp_in_nI (n := i + 2) (N := L) (by omega) (by omega)) dL_law_1542 ?_
  refine lv_to (y := xs (i + 2)) (congrArg xs (nI_clamp (by omega))) ?_
  refine lv_aload_n hx hb dL_law_1543 rfl (lv_at hl 2 rfl) ?_
  obtain ⟨⟨k1, r1, T1⟩, hg, hc⟩ := cs_X11_trackCell T 0 (xs (i + 1)) (xs (i + 2)) hV (by decide +kernel)
  have hV1 : IV aR0 1586 aK1 aK2 T1 := hc.1.1
  have hg1 := s_X11_trackCell hg
  have hg2 := sg_le hg1
  have hg3 := hg1.1
  have hk := hV1.2.2.2.2.2.2
  have hrc1 := hg1.2.2 hrc
  have hr0 := a_room
  refine l_v (h0 := s.heap.size) (As := [.ref (ad 0), .int (xs (i + 1)), .int (xs (i + 2)), .ref aj]) (rest := []) E G hA hX hN (fun _ h => h) hTS hml (v_trackCell l hst D s.heap.size ad T 0 (xs (i + 1)) (xs (i + 2)) aj f hg hrc h0T h0s) (vx_cwSW 4 hts (glA (L := [Cond.methodLink RL 330 yL_trackCell, Cond.static yL_trackCell, Cond.initialized RL]) (gl_in [(6, 212), (6, 213), (1, 0)] (by decide +kernel) (by decide +kernel)) ⟨(t_of [Cond.codeWith yL_trackCell cL_trackCell 5 (some .int) [(0, 10, 13, 21), (0, 10, 17, 13), (0, 10, 21, 15)]] [(6, 214)] (by decide +kernel) _ List.mem_cons_self), List.all_eq_true.mp (by decide +kernel : [Cond.codeWith yL_trackCell cL_trackCell 5 (some .int) [(0, 10, 13, 21), (0, 10, 17, 13), (0, 10, 21, 15)]].all goodWord = true) _ List.mem_cons_self⟩) rfl rfl rfl (by decide +kernel) ⟨Nat.le_of_ble_eq_true rfl, Nat.le_of_ble_eq_true rfl⟩) rfl hl.1 rfl (lv_room (Nat.le_of_ble_eq_true rfl)) dL_law_1544 ⟨by show _ ≤ 601024; omega, by show _ ≤ 7293034; omega⟩ ?_
  intro ad2 H locs had G
  rw [← had 0 h0T] at hl
  refine lv_istore (lv' := [(6, .int (vck 1 2 3 k1)), (5, .int (nI i)), (4, .ref ae), (3, .ref aj), (2, .ref (am 0)), (1, .ref (ad2 0)), (0, .ref b)]) hx hb dL_law_1547 hl (by decide) rfl (fun ls hl => ?_)
  refine lv_aload_n hx hb dL_law_1549 rfl (lv_at hl 4 rfl) ?_
  refine lv_aload_n hx hb dL_law_1550 rfl (lv_at hl 6 rfl) ?_
  refine lv_iload hx hb dL_law_1551 (lv_at hl 1 rfl) ?_
  refine lv_iconst (v := 1) hx hb dL_law_1553 (by decide) ?_
  refine lv_iadd hx hb dL_law_1554 ?_
  refine lv_to (y := nI (i + 1)) (nI_add i 1) ?_
  refine va_sld hx hb hX0 hbl (Nat.not_le.mpr hbl) G.2.2 (i := nI (i + 1)) (vp_in_nI (n := i + 1) (N := L) (by omega) (by omega)) dL_law_1555 ?_
  refine lv_to (y := xs (i + 1)) (congrArg xs (nI_clamp (by omega))) ?_
  refine lv_aload_n hx hb dL_law_1556 rfl (lv_at hl 6 rfl) ?_
  refine lv_iload hx hb dL_law_1557 (lv_at hl 1 rfl) ?_
  refine lv_iconst (v := 2) hx hb dL_law_1559 (by decide) ?_
  refine lv_iadd hx hb dL_law_1560 ?_
  refine lv_to (y := nI (i + 2)) (nI_add i 2) ?_
  refine va_sld hx hb hX0 hbl (Nat.not_le.mpr hbl) G.2.2 (i := nI (i + 2)) (vp_in_nI (n := i + 2) (N := L) (by omega) (by omega)) dL_law_1561 ?_
  refine lv_to (y := xs (i + 2)) (congrArg xs (nI_clamp (by omega))) ?_
  obtain ⟨⟨r2, S1⟩, hf, hj⟩ := sj_trackCell Sm (xs (i + 1)) (xs (i + 2)) hJ
  have hJ1 : JJ S1 := hj
  refine y_mi (As := [.int (xs (i + 1)), .int (xs (i + 2))]) (rest := []) E G hA hX.2.2.2.2 hml (tr_trackCell l D cI cJ cZ am Sm (xs (i + 1)) (xs (i + 2)) hf) (cwV 2 hts (glM (L := [Cond.methodLink RL 332 yX12_trackCell, Cond.instanceMethod yX12_trackCell, Cond.selects RX12 yX12_trackCell yX12_trackCell, Cond.initialized RX12]) (gl_in [(10, 65), (10, 66), (10, 67), (1, 14)] (by decide +kernel) (by decide +kernel)) ⟨(t_of [Cond.code yX12_trackCell cX12_trackCell 5 (some .int)] [(10, 68)] (by decide +kernel) _ List.mem_cons_self), List.all_eq_true.mp (by decide +kernel : [Cond.code yX12_trackCell cX12_trackCell 5 (some .int)].all goodWord = true) _ List.mem_cons_self⟩) rfl rfl rfl (by decide +kernel) ⟨Nat.le_of_ble_eq_true rfl, Nat.le_of_ble_eq_true rfl⟩) rfl hl.1 rfl (lv_room (Nat.le_of_ble_eq_true rfl)) dL_law_1562 ⟨by show _ ≤ 601024; omega, by show _ ≤ 7293034; omega⟩ (fun H locs G => ?_)
  refine lv_istore (lv' := [(7, .int r2), (6, .int (vck 1 2 3 k1)), (5, .int (nI i)), (4, .ref ae), (3, .ref aj), (2, .ref (am 0)), (1, .ref (ad2 0)), (0, .ref b)]) hx hb dL_law_1565 hl (by decide) rfl (fun ls hl => ?_)
  refine lv_goto (tgt := 2439) hx hb dL_law_1567 (by decide) ?_
  have hl := lv_sub hl [2, 3, 4, 5, 6, 7] rfl
  refine W.widen (k := 19 + T1.1 + (j + 1)) (n := 38467 + sg T1 + 6 * (j + 1)) (by omega) (by omega) ?_
  exact kk ad2 (vfJ k1 f r1.toInt64) g H locs ls hg hf (had 0 h0T) hV1 hrc1 hJ1 G hl
set_option maxHeartbeats 4000000 in
set_option maxRecDepth 100000 in
theorem y_a41 {p : Program} {e : Env} {s : State} {m : MethodId} {below : List Frame} {meth : Method} {c : Code} (l : Launch) (hst : l.stackTraces = false) {b L : Nat} {xs : Nat → Int32} (hx : p.tables.exec = Jvm.exec) (hb : c.code = code) (hml : c.maxLocals = 9) (hown : s.vm.findClass RL = some m.cls) (hts : ∀ w ∈ lw_tbl, w.before #[Value.ref b] s = true) (hX0 : va_X b L xs s s.heap) (hbl : b < s.heap.size) (hX : xT (fun q => s.heap.size ≤ q) s) (hN : nC s) (hTS : sAll s.heap.size s) {D : va_G} {cI cJ cZ cMic cSrc cSt cAI cAJ cD : ClassId} (hK : va_K D vwCl (CT cI cJ cZ cMic cSrc cSt cAI cAJ ++ [(cD, .double)]) s) {Q : State → Prop} {i j : Nat} (hi : i + 6 ≤ L) (hL : L ≤ 3072) (hj : j < 512) {aj ae : Nat} {ad am : Nat → Nat} {T : AT} {Sm : MS} {f : Nat → Int64} {g : Nat → UInt64} {ls : Array Slot} {H : Heap} {locs : List Loc} (hV : IV aR0 1586 aK1 aK2 T) (hrc : RC T) (hJ : JJ Sm) (G : gL cI cJ cZ cMic cSrc cSt cAI cAJ D ad (fun q => s.heap.size ≤ q) s.heap H locs T (oJ aj cJ f :: oD ae cD g :: MW cI cJ cZ am Sm)) (hl : lv_has ls 9 [(5, .int (nI i)), (4, .ref ae), (3, .ref aj), (2, .ref (am 0)), (1, .ref (ad 0)), (0, .ref b)]) (kk : ∀ {k1 : Nat} {r1 : Int64} {T1 : AT} {r2 : Int64} {S1 : MS} (ad2 : Nat → Nat) (f1 : Nat → Int64) (g1 : Nat → UInt64) (H1 : Heap) (locs1 : List Loc) (ls1 : Array Slot), g_X11_movingPower T 0 (xs (i + 1)) (xs (i + 2)) (xs (i + 3)) = some (k1, r1, T1) → fr_movingPower Sm (xs (i + 1)) (xs (i + 2)) (xs (i + 3)) = some (r2, S1) → ad2 0 = ad 0 → IV aR0 1586 aK1 aK2 T1 → RC T1 → JJ S1 → gL cI cJ cZ cMic cSrc cSt cAI cAJ D ad2 (fun q => s.heap.size ≤ q) s.heap H1 locs1 T1 (oJ aj cJ f1 :: oD ae cD g1 :: MW cI cJ cZ am S1) → lv_has ls1 9 [(5, .int (nI i)), (4, .ref ae), (3, .ref aj), (2, .ref (am 0)), (1, .ref (ad2 0)), (0, .ref b)] → W p l e room_1 s m #[Value.ref b] below meth c H1 locs1 (19 + T1.1 + (j + 1)) (38467 + sg T1 + 6 * (j + 1)) Q (F0 m 2439 ls1 [])) : W p l e room_1 s m #[Value.ref b] below meth c H locs (19 + T.1 + j) (38467 + sg T + 6 * j) Q (F0 m 1570 ls []) := by
  have E : cE p c cL_law s m #[Value.ref b] lw_tbl D RL (CT cI cJ cZ cMic cSrc cSt cAI cAJ ++ [(cD, .double)]) := ⟨hx, hb, hts, hown, hK⟩
  have hA : ∀ q : Nat, s.heap.size ≤ q → s.heap.size ≤ q := fun _ h => h
  have h0T : 0 < T.1 := Nat.lt_of_lt_of_le (by decide) hV.1.2.2
  have h0s : T.2.1 0 = (11, 0) := hV.2.1 0 ⟨by decide, by decide +kernel, by decide +kernel⟩
  refine lv_aload_n hx hb dL_law_1570 rfl (lv_at hl 4 rfl) ?_
  refine lv_aload_n hx hb dL_law_1571 rfl (lv_at hl 5 rfl) ?_
  refine lv_iload hx hb dL_law_1572 (lv_at hl 0 rfl) ?_
  refine lv_iconst (v := 1) hx hb dL_law_1574 (by decide) ?_
  refine lv_iadd hx hb dL_law_1575 ?_
  refine lv_to (y := nI (i + 1)) (nI_add i 1) ?_
  refine va_sld hx hb hX0 hbl (Nat.not_le.mpr hbl) G.2.2 (i := nI (i + 1)) (vp_in_nI (n := i + 1) (N := L) (by omega) (by omega)) dL_law_1576 ?_
  refine lv_to (y := xs (i + 1)) (congrArg xs (nI_clamp (by omega))) ?_
  refine lv_aload_n hx hb dL_law_1577 rfl (lv_at hl 5 rfl) ?_
  refine lv_iload hx hb dL_law_1578 (lv_at hl 0 rfl) ?_
  refine lv_iconst (v := 2) hx hb dL_law_1580 (by decide) ?_
  refine lv_iadd hx hb dL_law_1581 ?_
  refine lv_to (y := nI (i + 2)) (nI_add i 2) ?_
  refine va_sld hx hb hX0 hbl (Nat.not_le.mpr hbl) G.2.2 (i := nI (i + 2)) (vp_in_nI (n := i + 2) (N := L) (by omega) (by omega)) dL_law_1582 ?_
  refine lv_to (y := xs (i + 2)) (congrArg xs (nI_clamp (by omega))) ?_
  refine lv_aload_n hx hb dL_law_1583 rfl (lv_at hl 5 rfl) ?_
  refine lv_iload hx hb dL_law_1584 (lv_at hl 0 rfl) ?_
  refine lv_iconst (v := 3) hx hb dL_law_1586 (by decide) ?_
  refine lv_iadd hx hb dL_law_1587 ?_
  refine lv_to (y := nI (i + 3)) (nI_add i 3) ?_
  refine va_sld hx hb hX0 hbl (Nat.not_le.mpr hbl) G.2.2 (i := nI (i + 3)) (vp_in_nI (n := i + 3) (N := L) (by omega) (by omega)) dL_law_1588 ?_
  refine lv_to (y := xs (i + 3)) (congrArg xs (nI_clamp (by omega))) ?_
  refine lv_aload_n hx hb dL_law_1589 rfl (lv_at hl 2 rfl) ?_
  obtain ⟨⟨k1, r1, T1⟩, hg, hc⟩ := cs_X11_movingPower T 0 (xs (i + 1)) (xs (i + 2)) (xs (i + 3)) hV (by decide +kernel)
  have hV1 : IV aR0 1586 aK1 aK2 T1 := hc.1.1
  have hg1 := s_X11_movingPower hg
  have hg2 := sg_le hg1
  have hg3 := hg1.1
  have hk := hV1.2.2.2.2.2.2
  have hrc1 := hg1.2.2 hrc
  have hr0 := a_room
  refine l_v (h0 := s.heap.size) (As := [.ref (ad 0), .int (xs (i + 1)), .int (xs (i + 2)), .int (xs (i + 3)), .ref aj]) (rest := []) E G hA hX hN (fun _ h => h) hTS hml (v_movingPower l hst D s.heap.size ad T 0 (xs (i + 1)) (xs (i + 2)) (xs (i + 3)) aj f hg hrc h0T h0s) (vx_cwSW 5 hts (glA (L := [Cond.methodLink RL 333 yL_movingPower, Cond.static yL_movingPower, Cond.initialized RL]) (gl_in [(6, 220), (6, 221), (1, 0)] (by decide +kernel) (by decide +kernel)) ⟨(t_of [Cond.codeWith yL_movingPower cL_movingPower 6 (some .int) [(0, 11, 14, 21), (0, 11, 18, 13), (0, 11, 22, 15)]] [(6, 222)] (by decide +kernel) _ List.mem_cons_self), List.all_eq_true.mp (by decide +kernel : [Cond.codeWith yL_movingPower cL_movingPower 6 (some .int) [(0, 11, 14, 21), (0, 11, 18, 13), (0, 11, 22, 15)]].all goodWord = true) _ List.mem_cons_self⟩) rfl rfl rfl (by decide +kernel) ⟨Nat.le_of_ble_eq_true rfl, Nat.le_of_ble_eq_true rfl⟩) rfl hl.1 rfl (lv_room (Nat.le_of_ble_eq_true rfl)) dL_law_1590 ⟨by show _ ≤ 601024; omega, by show _ ≤ 7293034; omega⟩ ?_
  intro ad2 H locs had G
  rw [← had 0 h0T] at hl
  refine lv_istore (lv' := [(6, .int (vck 1 2 3 k1)), (5, .int (nI i)), (4, .ref ae), (3, .ref aj), (2, .ref (am 0)), (1, .ref (ad2 0)), (0, .ref b)]) hx hb dL_law_1593 hl (by decide) rfl (fun ls hl => ?_)
  refine lv_aload_n hx hb dL_law_1595 rfl (lv_at hl 4 rfl) ?_
  refine lv_aload_n hx hb dL_law_1596 rfl (lv_at hl 6 rfl) ?_
  refine lv_iload hx hb dL_law_1597 (lv_at hl 1 rfl) ?_
  refine lv_iconst (v := 1) hx hb dL_law_1599 (by decide) ?_
  refine lv_iadd hx hb dL_law_1600 ?_
  refine lv_to (y := nI (i + 1)) (nI_add i 1) ?_
  refine va_sld hx hb hX0 hbl (Nat.not_le.mpr hbl) G.2.2 (i := nI (i + 1)) (vp_in_nI (n := i + 1) (N := L) (by omega) (by omega)) dL_law_1601 ?_
  refine lv_to (y := xs (i + 1)) (congrArg xs (nI_clamp (by omega))) ?_
  refine lv_aload_n hx hb dL_law_1602 rfl (lv_at hl 6 rfl) ?_
  refine lv_iload hx hb dL_law_1603 (lv_at hl 1 rfl) ?_
  refine lv_iconst (v := 2) hx hb dL_law_1605 (by decide) ?_
  refine lv_iadd hx hb dL_law_1606 ?_
  refine lv_to (y := nI (i + 2)) (nI_add i 2) ?_
  refine va_sld hx hb hX0 hbl (Nat.not_le.mpr hbl) G.2.2 (i := nI (i + 2)) (vp_in_nI (n := i + 2) (N := L) (by omega) (by omega)) dL_law_1607 ?_
  refine lv_to (y := xs (i + 2)) (congrArg xs (nI_clamp (by omega))) ?_
  refine lv_aload_n hx hb dL_law_1608 rfl (lv_at hl 6 rfl) ?_
  refine lv_iload hx hb dL_law_1609 (lv_at hl 1 rfl) ?_
  refine lv_iconst (v := 3) hx hb dL_law_1611 (by decide) ?_
  refine lv_iadd hx hb dL_law_1612 ?_
  refine lv_to (y := nI (i + 3)) (nI_add i 3) ?_
  refine va_sld hx hb hX0 hbl (Nat.not_le.mpr hbl) G.2.2 (i := nI (i + 3)) (vp_in_nI (n := i + 3) (N := L) (by omega) (by omega)) dL_law_1613 ?_
  refine lv_to (y := xs (i + 3)) (congrArg xs (nI_clamp (by omega))) ?_
  obtain ⟨⟨r2, S1⟩, hf, hj⟩ := sj_movingPower Sm (xs (i + 1)) (xs (i + 2)) (xs (i + 3)) hJ
  have hJ1 : JJ S1 := hj
  refine y_ml (As := [.int (xs (i + 1)), .int (xs (i + 2)), .int (xs (i + 3))]) (rest := []) E G hA hX.2.2.2.2 hml (tr_movingPower l D cI cJ cZ am Sm (xs (i + 1)) (xs (i + 2)) (xs (i + 3)) hf) (cwV 3 hts (glM (L := [Cond.methodLink RL 335 yX12_movingPower, Cond.instanceMethod yX12_movingPower, Cond.selects RX12 yX12_movingPower yX12_movingPower, Cond.initialized RX12]) (gl_in [(10, 85), (10, 86), (10, 87), (1, 14)] (by decide +kernel) (by decide +kernel)) ⟨(t_of [Cond.code yX12_movingPower cX12_movingPower 4 (some .long)] [(10, 88)] (by decide +kernel) _ List.mem_cons_self), List.all_eq_true.mp (by decide +kernel : [Cond.code yX12_movingPower cX12_movingPower 4 (some .long)].all goodWord = true) _ List.mem_cons_self⟩) rfl rfl rfl (by decide +kernel) ⟨Nat.le_of_ble_eq_true rfl, Nat.le_of_ble_eq_true rfl⟩) rfl hl.1 rfl (lv_room (Nat.le_of_ble_eq_true rfl)) dL_law_1614 ⟨by show _ ≤ 601024; omega, by show _ ≤ 7293034; omega⟩ (fun H locs G => ?_)
  refine lv_lstore (lv' := [(7, .long r2), (6, .int (vck 1 2 3 k1)), (5, .int (nI i)), (4, .ref ae), (3, .ref aj), (2, .ref (am 0)), (1, .ref (ad2 0)), (0, .ref b)]) hx hb dL_law_1617 hl (by decide) rfl (fun ls hl => ?_)
  refine lv_goto (tgt := 2439) hx hb dL_law_1619 (by decide) ?_
  have hl := lv_sub hl [2, 3, 4, 5, 6, 7] rfl
  refine W.widen (k := 19 + T1.1 + (j + 1)) (n := 38467 + sg T1 + 6 * (j + 1)) (by omega) (by omega) ?_
  exact kk ad2 (vfJ k1 f r1) g H locs ls hg hf (had 0 h0T) hV1 hrc1 hJ1 G hl
set_option maxHeartbeats 4000000 in
set_option maxRecDepth 100000 in
theorem y_a42 {p : Program} {e : Env} {s : State} {m : MethodId} {below : List Frame} {meth : Method} {c : Code} (l : Launch) (hst : l.stackTraces = false) {b L : Nat} {xs : Nat → Int32} (hx : p.tables.exec = Jvm.exec) (hb : c.code = code) (hml : c.maxLocals = 9) (hown : s.vm.findClass RL = some m.cls) (hts : ∀ w ∈ lw_tbl, w.before #[Value.ref b] s = true) (hX0 : va_X b L xs s s.heap) (hbl : b < s.heap.size) (hX : xT (fun q => s.heap.size ≤ q) s) (hN : nC s) (hTS : sAll s.heap.size s) {D : va_G} {cI cJ cZ cMic cSrc cSt cAI cAJ cD : ClassId} (hK : va_K D vwCl (CT cI cJ cZ cMic cSrc cSt cAI cAJ ++ [(cD, .double)]) s) {Q : State → Prop} {i j : Nat} (hi : i + 6 ≤ L) (hL : L ≤ 3072) (hj : j < 512) {aj ae : Nat} {ad am : Nat → Nat} {T : AT} {Sm : MS} {f : Nat → Int64} {g : Nat → UInt64} {ls : Array Slot} {H : Heap} {locs : List Loc} (hV : IV aR0 1586 aK1 aK2 T) (hrc : RC T) (hJ : JJ Sm) (G : gL cI cJ cZ cMic cSrc cSt cAI cAJ D ad (fun q => s.heap.size ≤ q) s.heap H locs T (oJ aj cJ f :: oD ae cD g :: MW cI cJ cZ am Sm)) (hl : lv_has ls 9 [(5, .int (nI i)), (4, .ref ae), (3, .ref aj), (2, .ref (am 0)), (1, .ref (ad 0)), (0, .ref b)]) (kk : ∀ {k1 : Nat} {r1 : Int32} {T1 : AT} {r2 : Int32} {S1 : MS} (ad2 : Nat → Nat) (f1 : Nat → Int64) (g1 : Nat → UInt64) (H1 : Heap) (locs1 : List Loc) (ls1 : Array Slot), g_X11_bestVelocity T 0 (xs (i + 1)) (xs (i + 2)) (xs (i + 3)) = some (k1, r1, T1) → fr_bestVelocity Sm (xs (i + 1)) (xs (i + 2)) (xs (i + 3)) = some (r2, S1) → ad2 0 = ad 0 → IV aR0 1586 aK1 aK2 T1 → RC T1 → JJ S1 → gL cI cJ cZ cMic cSrc cSt cAI cAJ D ad2 (fun q => s.heap.size ≤ q) s.heap H1 locs1 T1 (oJ aj cJ f1 :: oD ae cD g1 :: MW cI cJ cZ am S1) → lv_has ls1 9 [(5, .int (nI i)), (4, .ref ae), (3, .ref aj), (2, .ref (am 0)), (1, .ref (ad2 0)), (0, .ref b)] → W p l e room_1 s m #[Value.ref b] below meth c H1 locs1 (19 + T1.1 + (j + 1)) (38467 + sg T1 + 6 * (j + 1)) Q (F0 m 2439 ls1 [])) : W p l e room_1 s m #[Value.ref b] below meth c H locs (19 + T.1 + j) (38467 + sg T + 6 * j) Q (F0 m 1622 ls []) := by
  have E : cE p c cL_law s m #[Value.ref b] lw_tbl D RL (CT cI cJ cZ cMic cSrc cSt cAI cAJ ++ [(cD, .double)]) := ⟨hx, hb, hts, hown, hK⟩
  have hA : ∀ q : Nat, s.heap.size ≤ q → s.heap.size ≤ q := fun _ h => h
  have h0T : 0 < T.1 := Nat.lt_of_lt_of_le (by decide) hV.1.2.2
  have h0s : T.2.1 0 = (11, 0) := hV.2.1 0 ⟨by decide, by decide +kernel, by decide +kernel⟩
  refine lv_aload_n hx hb dL_law_1622 rfl (lv_at hl 4 rfl) ?_
  refine lv_aload_n hx hb dL_law_1623 rfl (lv_at hl 5 rfl) ?_
  refine lv_iload hx hb dL_law_1624 (lv_at hl 0 rfl) ?_
  refine lv_iconst (v := 1) hx hb dL_law_1626 (by decide) ?_
  refine lv_iadd hx hb dL_law_1627 ?_
  refine lv_to (y := nI (i + 1)) (nI_add i 1) ?_
  refine va_sld hx hb hX0 hbl (Nat.not_le.mpr hbl) G.2.2 (i := nI (i + 1)) (vp_in_nI (n := i + 1) (N := L) (by omega) (by omega)) dL_law_1628 ?_
  refine lv_to (y := xs (i + 1)) (congrArg xs (nI_clamp (by omega))) ?_
  refine lv_aload_n hx hb dL_law_1629 rfl (lv_at hl 5 rfl) ?_
  refine lv_iload hx hb dL_law_1630 (lv_at hl 0 rfl) ?_
  refine lv_iconst (v := 2) hx hb dL_law_1632 (by decide) ?_
  refine lv_iadd hx hb dL_law_1633 ?_
  refine lv_to (y := nI (i + 2)) (nI_add i 2) ?_
  refine va_sld hx hb hX0 hbl (Nat.not_le.mpr hbl) G.2.2 (i := nI (i + 2)) (vp_in_nI (n := i + 2) (N := L) (by omega) (by omega)) dL_law_1634 ?_
  refine lv_to (y := xs (i + 2)) (congrArg xs (nI_clamp (by omega))) ?_
  refine lv_aload_n hx hb dL_law_1635 rfl (lv_at hl 5 rfl) ?_
  refine lv_iload hx hb dL_law_1636 (lv_at hl 0 rfl) ?_
  refine lv_iconst (v := 3) hx hb dL_law_1638 (by decide) ?_
  refine lv_iadd hx hb dL_law_1639 ?_
  refine lv_to (y := nI (i + 3)) (nI_add i 3) ?_
  refine va_sld hx hb hX0 hbl (Nat.not_le.mpr hbl) G.2.2 (i := nI (i + 3)) (vp_in_nI (n := i + 3) (N := L) (by omega) (by omega)) dL_law_1640 ?_
  refine lv_to (y := xs (i + 3)) (congrArg xs (nI_clamp (by omega))) ?_
  refine lv_aload_n hx hb dL_law_1641 rfl (lv_at hl 2 rfl) ?_
  obtain ⟨⟨k1, r1, T1⟩, hg, hc⟩ := cs_X11_bestVelocity T 0 (xs (i + 1)) (xs (i + 2)) (xs (i + 3)) hV (by decide +kernel)
  have hV1 : IV aR0 1586 aK1 aK2 T1 := hc.1.1
  have hg1 := s_X11_bestVelocity hg
  have hg2 := sg_le hg1
  have hg3 := hg1.1
  have hk := hV1.2.2.2.2.2.2
  have hrc1 := hg1.2.2 hrc
  have hr0 := a_room
  refine l_v (h0 := s.heap.size) (As := [.ref (ad 0), .int (xs (i + 1)), .int (xs (i + 2)), .int (xs (i + 3)), .ref aj]) (rest := []) E G hA hX hN (fun _ h => h) hTS hml (v_bestVelocity l hst D s.heap.size ad T 0 (xs (i + 1)) (xs (i + 2)) (xs (i + 3)) aj f hg hrc h0T h0s) (vx_cwSW 5 hts (glA (L := [Cond.methodLink RL 336 yL_bestVelocity, Cond.static yL_bestVelocity, Cond.initialized RL]) (gl_in [(6, 233), (6, 234), (1, 0)] (by decide +kernel) (by decide +kernel)) ⟨(t_of [Cond.codeWith yL_bestVelocity cL_bestVelocity 6 (some .int) [(0, 12, 15, 21), (0, 12, 19, 13), (0, 12, 23, 15)]] [(6, 235)] (by decide +kernel) _ List.mem_cons_self), List.all_eq_true.mp (by decide +kernel : [Cond.codeWith yL_bestVelocity cL_bestVelocity 6 (some .int) [(0, 12, 15, 21), (0, 12, 19, 13), (0, 12, 23, 15)]].all goodWord = true) _ List.mem_cons_self⟩) rfl rfl rfl (by decide +kernel) ⟨Nat.le_of_ble_eq_true rfl, Nat.le_of_ble_eq_true rfl⟩) rfl hl.1 rfl (lv_room (Nat.le_of_ble_eq_true rfl)) dL_law_1642 ⟨by show _ ≤ 601024; omega, by show _ ≤ 7293034; omega⟩ ?_
  intro ad2 H locs had G
  rw [← had 0 h0T] at hl
  refine lv_istore (lv' := [(6, .int (vck 1 2 3 k1)), (5, .int (nI i)), (4, .ref ae), (3, .ref aj), (2, .ref (am 0)), (1, .ref (ad2 0)), (0, .ref b)]) hx hb dL_law_1645 hl (by decide) rfl (fun ls hl => ?_)
  refine lv_aload_n hx hb dL_law_1647 rfl (lv_at hl 4 rfl) ?_
  refine lv_aload_n hx hb dL_law_1648 rfl (lv_at hl 6 rfl) ?_
  refine lv_iload hx hb dL_law_1649 (lv_at hl 1 rfl) ?_
  refine lv_iconst (v := 1) hx hb dL_law_1651 (by decide) ?_
  refine lv_iadd hx hb dL_law_1652 ?_
  refine lv_to (y := nI (i + 1)) (nI_add i 1) ?_
  refine va_sld hx hb hX0 hbl (Nat.not_le.mpr hbl) G.2.2 (i := nI (i + 1)) (vp_in_nI (n := i + 1) (N := L) (by omega) (by omega)) dL_law_1653 ?_
  refine lv_to (y := xs (i + 1)) (congrArg xs (nI_clamp (by omega))) ?_
  refine lv_aload_n hx hb dL_law_1654 rfl (lv_at hl 6 rfl) ?_
  refine lv_iload hx hb dL_law_1655 (lv_at hl 1 rfl) ?_
  refine lv_iconst (v := 2) hx hb dL_law_1657 (by decide) ?_
  refine lv_iadd hx hb dL_law_1658 ?_
  refine lv_to (y := nI (i + 2)) (nI_add i 2) ?_
  refine va_sld hx hb hX0 hbl (Nat.not_le.mpr hbl) G.2.2 (i := nI (i + 2)) (vp_in_nI (n := i + 2) (N := L) (by omega) (by omega)) dL_law_1659 ?_
  refine lv_to (y := xs (i + 2)) (congrArg xs (nI_clamp (by omega))) ?_
  refine lv_aload_n hx hb dL_law_1660 rfl (lv_at hl 6 rfl) ?_
  refine lv_iload hx hb dL_law_1661 (lv_at hl 1 rfl) ?_
  refine lv_iconst (v := 3) hx hb dL_law_1663 (by decide) ?_
  refine lv_iadd hx hb dL_law_1664 ?_
  refine lv_to (y := nI (i + 3)) (nI_add i 3) ?_
  refine va_sld hx hb hX0 hbl (Nat.not_le.mpr hbl) G.2.2 (i := nI (i + 3)) (vp_in_nI (n := i + 3) (N := L) (by omega) (by omega)) dL_law_1665 ?_
  refine lv_to (y := xs (i + 3)) (congrArg xs (nI_clamp (by omega))) ?_
  obtain ⟨⟨r2, S1⟩, hf, hj⟩ := sj_bestVelocity Sm (xs (i + 1)) (xs (i + 2)) (xs (i + 3)) hJ
  have hJ1 : JJ S1 := hj
  refine y_mi (As := [.int (xs (i + 1)), .int (xs (i + 2)), .int (xs (i + 3))]) (rest := []) E G hA hX.2.2.2.2 hml (tr_bestVelocity l D cI cJ cZ am Sm (xs (i + 1)) (xs (i + 2)) (xs (i + 3)) hf) (cwV 3 hts (glM (L := [Cond.methodLink RL 338 yX12_bestVelocity, Cond.instanceMethod yX12_bestVelocity, Cond.selects RX12 yX12_bestVelocity yX12_bestVelocity, Cond.initialized RX12]) (gl_in [(10, 96), (10, 97), (10, 98), (1, 14)] (by decide +kernel) (by decide +kernel)) ⟨(t_of [Cond.code yX12_bestVelocity cX12_bestVelocity 11 (some .int)] [(10, 99)] (by decide +kernel) _ List.mem_cons_self), List.all_eq_true.mp (by decide +kernel : [Cond.code yX12_bestVelocity cX12_bestVelocity 11 (some .int)].all goodWord = true) _ List.mem_cons_self⟩) rfl rfl rfl (by decide +kernel) ⟨Nat.le_of_ble_eq_true rfl, Nat.le_of_ble_eq_true rfl⟩) rfl hl.1 rfl (lv_room (Nat.le_of_ble_eq_true rfl)) dL_law_1666 ⟨by show _ ≤ 601024; omega, by show _ ≤ 7293034; omega⟩ (fun H locs G => ?_)
  refine lv_istore (lv' := [(7, .int r2), (6, .int (vck 1 2 3 k1)), (5, .int (nI i)), (4, .ref ae), (3, .ref aj), (2, .ref (am 0)), (1, .ref (ad2 0)), (0, .ref b)]) hx hb dL_law_1669 hl (by decide) rfl (fun ls hl => ?_)
  refine lv_goto (tgt := 2439) hx hb dL_law_1671 (by decide) ?_
  have hl := lv_sub hl [2, 3, 4, 5, 6, 7] rfl
  refine W.widen (k := 19 + T1.1 + (j + 1)) (n := 38467 + sg T1 + 6 * (j + 1)) (by omega) (by omega) ?_
  exact kk ad2 (vfJ k1 f r1.toInt64) g H locs ls hg hf (had 0 h0T) hV1 hrc1 hJ1 G hl
set_option maxHeartbeats 4000000 in
set_option maxRecDepth 100000 in
theorem y_a43 {p : Program} {e : Env} {s : State} {m : MethodId} {below : List Frame} {meth : Method} {c : Code} (l : Launch) (hst : l.stackTraces = false) {b L : Nat} {xs : Nat → Int32} (hx : p.tables.exec = Jvm.exec) (hb : c.code = code) (hml : c.maxLocals = 9) (hown : s.vm.findClass RL = some m.cls) (hts : ∀ w ∈ lw_tbl, w.before #[Value.ref b] s = true) (hX0 : va_X b L xs s s.heap) (hbl : b < s.heap.size) (hX : xT (fun q => s.heap.size ≤ q) s) (hN : nC s) (hTS : sAll s.heap.size s) {D : va_G} {cI cJ cZ cMic cSrc cSt cAI cAJ cD : ClassId} (hK : va_K D vwCl (CT cI cJ cZ cMic cSrc cSt cAI cAJ ++ [(cD, .double)]) s) {Q : State → Prop} {i j : Nat} (hi : i + 6 ≤ L) (hL : L ≤ 3072) (hj : j < 512) {aj ae : Nat} {ad am : Nat → Nat} {T : AT} {Sm : MS} {f : Nat → Int64} {g : Nat → UInt64} {ls : Array Slot} {H : Heap} {locs : List Loc} (hV : IV aR0 1586 aK1 aK2 T) (hrc : RC T) (hJ : JJ Sm) (G : gL cI cJ cZ cMic cSrc cSt cAI cAJ D ad (fun q => s.heap.size ≤ q) s.heap H locs T (oJ aj cJ f :: oD ae cD g :: MW cI cJ cZ am Sm)) (hl : lv_has ls 9 [(5, .int (nI i)), (4, .ref ae), (3, .ref aj), (2, .ref (am 0)), (1, .ref (ad 0)), (0, .ref b)]) (kk : ∀ {k1 : Nat} {r1 : Int64} {T1 : AT} {r2 : Int64} {S1 : MS} (ad2 : Nat → Nat) (f1 : Nat → Int64) (g1 : Nat → UInt64) (H1 : Heap) (locs1 : List Loc) (ls1 : Array Slot), g_X11_correlation T 0 (xs (i + 1)) (xs (i + 2)) (xs (i + 3)) = some (k1, r1, T1) → fr_correlation Sm (xs (i + 1)) (xs (i + 2)) (xs (i + 3)) = some (r2, S1) → ad2 0 = ad 0 → IV aR0 1586 aK1 aK2 T1 → RC T1 → JJ S1 → gL cI cJ cZ cMic cSrc cSt cAI cAJ D ad2 (fun q => s.heap.size ≤ q) s.heap H1 locs1 T1 (oJ aj cJ f1 :: oD ae cD g1 :: MW cI cJ cZ am S1) → lv_has ls1 9 [(5, .int (nI i)), (4, .ref ae), (3, .ref aj), (2, .ref (am 0)), (1, .ref (ad2 0)), (0, .ref b)] → W p l e room_1 s m #[Value.ref b] below meth c H1 locs1 (19 + T1.1 + (j + 1)) (38467 + sg T1 + 6 * (j + 1)) Q (F0 m 2439 ls1 [])) : W p l e room_1 s m #[Value.ref b] below meth c H locs (19 + T.1 + j) (38467 + sg T + 6 * j) Q (F0 m 1674 ls []) := by
  have E : cE p c cL_law s m #[Value.ref b] lw_tbl D RL (CT cI cJ cZ cMic cSrc cSt cAI cAJ ++ [(cD, .double)]) := ⟨hx, hb, hts, hown, hK⟩
  have hA : ∀ q : Nat, s.heap.size ≤ q → s.heap.size ≤ q := fun _ h => h
  have h0T : 0 < T.1 := Nat.lt_of_lt_of_le (by decide) hV.1.2.2
  have h0s : T.2.1 0 = (11, 0) := hV.2.1 0 ⟨by decide, by decide +kernel, by decide +kernel⟩
  refine lv_aload_n hx hb dL_law_1674 rfl (lv_at hl 4 rfl) ?_
  refine lv_aload_n hx hb dL_law_1675 rfl (lv_at hl 5 rfl) ?_
  refine lv_iload hx hb dL_law_1676 (lv_at hl 0 rfl) ?_
  refine lv_iconst (v := 1) hx hb dL_law_1678 (by decide) ?_
  refine lv_iadd hx hb dL_law_1679 ?_
  refine lv_to (y := nI (i + 1)) (nI_add i 1) ?_
  refine va_sld hx hb hX0 hbl (Nat.not_le.mpr hbl) G.2.2 (i := nI (i + 1)) (vp_in_nI (n := i + 1) (N := L) (by omega) (by omega)) dL_law_1680 ?_
  refine lv_to (y := xs (i + 1)) (congrArg xs (nI_clamp (by omega))) ?_
  refine lv_aload_n hx hb dL_law_1681 rfl (lv_at hl 5 rfl) ?_
  refine lv_iload hx hb dL_law_1682 (lv_at hl 0 rfl) ?_
  refine lv_iconst (v := 2) hx hb dL_law_1684 (by decide) ?_
  refine lv_iadd hx hb dL_law_1685 ?_
  refine lv_to (y := nI (i + 2)) (nI_add i 2) ?_
  refine va_sld hx hb hX0 hbl (Nat.not_le.mpr hbl) G.2.2 (i := nI (i + 2)) (vp_in_nI (n := i + 2) (N := L) (by omega) (by omega)) dL_law_1686 ?_
  refine lv_to (y := xs (i + 2)) (congrArg xs (nI_clamp (by omega))) ?_
  refine lv_aload_n hx hb dL_law_1687 rfl (lv_at hl 5 rfl) ?_
  refine lv_iload hx hb dL_law_1688 (lv_at hl 0 rfl) ?_
  refine lv_iconst (v := 3) hx hb dL_law_1690 (by decide) ?_
  refine lv_iadd hx hb dL_law_1691 ?_
  refine lv_to (y := nI (i + 3)) (nI_add i 3) ?_
  refine va_sld hx hb hX0 hbl (Nat.not_le.mpr hbl) G.2.2 (i := nI (i + 3)) (vp_in_nI (n := i + 3) (N := L) (by omega) (by omega)) dL_law_1692 ?_
  refine lv_to (y := xs (i + 3)) (congrArg xs (nI_clamp (by omega))) ?_
  refine lv_aload_n hx hb dL_law_1693 rfl (lv_at hl 2 rfl) ?_
  obtain ⟨⟨k1, r1, T1⟩, hg, hc⟩ := cs_X11_correlation T 0 (xs (i + 1)) (xs (i + 2)) (xs (i + 3)) hV (by decide +kernel)
  have hV1 : IV aR0 1586 aK1 aK2 T1 := hc.1.1
  have hg1 := s_X11_correlation hg
  have hg2 := sg_le hg1
  have hg3 := hg1.1
  have hk := hV1.2.2.2.2.2.2
  have hrc1 := hg1.2.2 hrc
  have hr0 := a_room
  refine l_v (h0 := s.heap.size) (As := [.ref (ad 0), .int (xs (i + 1)), .int (xs (i + 2)), .int (xs (i + 3)), .ref aj]) (rest := []) E G hA hX hN (fun _ h => h) hTS hml (v_correlation l hst D s.heap.size ad T 0 (xs (i + 1)) (xs (i + 2)) (xs (i + 3)) aj f hg hrc h0T h0s) (vx_cwSW 5 hts (glA (L := [Cond.methodLink RL 339 yL_correlation, Cond.static yL_correlation, Cond.initialized RL]) (gl_in [(7, 2), (7, 3), (1, 0)] (by decide +kernel) (by decide +kernel)) ⟨(t_of [Cond.codeWith yL_correlation cL_correlation 6 (some .int) [(0, 11, 14, 21), (0, 11, 18, 13), (0, 11, 22, 15)]] [(7, 4)] (by decide +kernel) _ List.mem_cons_self), List.all_eq_true.mp (by decide +kernel : [Cond.codeWith yL_correlation cL_correlation 6 (some .int) [(0, 11, 14, 21), (0, 11, 18, 13), (0, 11, 22, 15)]].all goodWord = true) _ List.mem_cons_self⟩) rfl rfl rfl (by decide +kernel) ⟨Nat.le_of_ble_eq_true rfl, Nat.le_of_ble_eq_true rfl⟩) rfl hl.1 rfl (lv_room (Nat.le_of_ble_eq_true rfl)) dL_law_1694 ⟨by show _ ≤ 601024; omega, by show _ ≤ 7293034; omega⟩ ?_
  intro ad2 H locs had G
  rw [← had 0 h0T] at hl
  refine lv_istore (lv' := [(6, .int (vck 1 2 3 k1)), (5, .int (nI i)), (4, .ref ae), (3, .ref aj), (2, .ref (am 0)), (1, .ref (ad2 0)), (0, .ref b)]) hx hb dL_law_1697 hl (by decide) rfl (fun ls hl => ?_)
  refine lv_aload_n hx hb dL_law_1699 rfl (lv_at hl 4 rfl) ?_
  refine lv_aload_n hx hb dL_law_1700 rfl (lv_at hl 6 rfl) ?_
  refine lv_iload hx hb dL_law_1701 (lv_at hl 1 rfl) ?_
  refine lv_iconst (v := 1) hx hb dL_law_1703 (by decide) ?_
  refine lv_iadd hx hb dL_law_1704 ?_
  refine lv_to (y := nI (i + 1)) (nI_add i 1) ?_
  refine va_sld hx hb hX0 hbl (Nat.not_le.mpr hbl) G.2.2 (i := nI (i + 1)) (vp_in_nI (n := i + 1) (N := L) (by omega) (by omega)) dL_law_1705 ?_
  refine lv_to (y := xs (i + 1)) (congrArg xs (nI_clamp (by omega))) ?_
  refine lv_aload_n hx hb dL_law_1706 rfl (lv_at hl 6 rfl) ?_
  refine lv_iload hx hb dL_law_1707 (lv_at hl 1 rfl) ?_
  refine lv_iconst (v := 2) hx hb dL_law_1709 (by decide) ?_
  refine lv_iadd hx hb dL_law_1710 ?_
  refine lv_to (y := nI (i + 2)) (nI_add i 2) ?_
  refine va_sld hx hb hX0 hbl (Nat.not_le.mpr hbl) G.2.2 (i := nI (i + 2)) (vp_in_nI (n := i + 2) (N := L) (by omega) (by omega)) dL_law_1711 ?_
  refine lv_to (y := xs (i + 2)) (congrArg xs (nI_clamp (by omega))) ?_
  refine lv_aload_n hx hb dL_law_1712 rfl (lv_at hl 6 rfl) ?_
  refine lv_iload hx hb dL_law_1713 (lv_at hl 1 rfl) ?_
  refine lv_iconst (v := 3) hx hb dL_law_1715 (by decide) ?_
  refine lv_iadd hx hb dL_law_1716 ?_
  refine lv_to (y := nI (i + 3)) (nI_add i 3) ?_
  refine va_sld hx hb hX0 hbl (Nat.not_le.mpr hbl) G.2.2 (i := nI (i + 3)) (vp_in_nI (n := i + 3) (N := L) (by omega) (by omega)) dL_law_1717 ?_
  refine lv_to (y := xs (i + 3)) (congrArg xs (nI_clamp (by omega))) ?_
  obtain ⟨⟨r2, S1⟩, hf, hj⟩ := sj_correlation Sm (xs (i + 1)) (xs (i + 2)) (xs (i + 3)) hJ
  have hJ1 : JJ S1 := hj
  refine y_ml (As := [.int (xs (i + 1)), .int (xs (i + 2)), .int (xs (i + 3))]) (rest := []) E G hA hX.2.2.2.2 hml (tr_correlation l D cI cJ cZ am Sm (xs (i + 1)) (xs (i + 2)) (xs (i + 3)) hf) (cwV 3 hts (glM (L := [Cond.methodLink RL 341 yX12_correlation, Cond.instanceMethod yX12_correlation, Cond.selects RX12 yX12_correlation yX12_correlation, Cond.initialized RX12]) (gl_in [(10, 100), (10, 101), (10, 102), (1, 14)] (by decide +kernel) (by decide +kernel)) ⟨(t_of [Cond.code yX12_correlation cX12_correlation 4 (some .long)] [(10, 103)] (by decide +kernel) _ List.mem_cons_self), List.all_eq_true.mp (by decide +kernel : [Cond.code yX12_correlation cX12_correlation 4 (some .long)].all goodWord = true) _ List.mem_cons_self⟩) rfl rfl rfl (by decide +kernel) ⟨Nat.le_of_ble_eq_true rfl, Nat.le_of_ble_eq_true rfl⟩) rfl hl.1 rfl (lv_room (Nat.le_of_ble_eq_true rfl)) dL_law_1718 ⟨by show _ ≤ 601024; omega, by show _ ≤ 7293034; omega⟩ (fun H locs G => ?_)
  refine lv_lstore (lv' := [(7, .long r2), (6, .int (vck 1 2 3 k1)), (5, .int (nI i)), (4, .ref ae), (3, .ref aj), (2, .ref (am 0)), (1, .ref (ad2 0)), (0, .ref b)]) hx hb dL_law_1721 hl (by decide) rfl (fun ls hl => ?_)
  refine lv_goto (tgt := 2439) hx hb dL_law_1723 (by decide) ?_
  have hl := lv_sub hl [2, 3, 4, 5, 6, 7] rfl
  refine W.widen (k := 19 + T1.1 + (j + 1)) (n := 38467 + sg T1 + 6 * (j + 1)) (by omega) (by omega) ?_
  exact kk ad2 (vfJ k1 f r1) g H locs ls hg hf (had 0 h0T) hV1 hrc1 hJ1 G hl
set_option maxHeartbeats 4000000 in
set_option maxRecDepth 100000 in
theorem y_a44 {p : Program} {e : Env} {s : State} {m : MethodId} {below : List Frame} {meth : Method} {c : Code} (l : Launch) (hst : l.stackTraces = false) {b L : Nat} {xs : Nat → Int32} (hx : p.tables.exec = Jvm.exec) (hb : c.code = code) (hml : c.maxLocals = 9) (hown : s.vm.findClass RL = some m.cls) (hts : ∀ w ∈ lw_tbl, w.before #[Value.ref b] s = true) (hX0 : va_X b L xs s s.heap) (hbl : b < s.heap.size) (hX : xT (fun q => s.heap.size ≤ q) s) (hN : nC s) (hTS : sAll s.heap.size s) {D : va_G} {cI cJ cZ cMic cSrc cSt cAI cAJ cD : ClassId} (hK : va_K D vwCl (CT cI cJ cZ cMic cSrc cSt cAI cAJ ++ [(cD, .double)]) s) {Q : State → Prop} {i j : Nat} (hi : i + 6 ≤ L) (hL : L ≤ 3072) (hj : j < 512) {aj ae : Nat} {ad am : Nat → Nat} {T : AT} {Sm : MS} {f : Nat → Int64} {g : Nat → UInt64} {ls : Array Slot} {H : Heap} {locs : List Loc} (hV : IV aR0 1586 aK1 aK2 T) (hrc : RC T) (hJ : JJ Sm) (G : gL cI cJ cZ cMic cSrc cSt cAI cAJ D ad (fun q => s.heap.size ≤ q) s.heap H locs T (oJ aj cJ f :: oD ae cD g :: MW cI cJ cZ am Sm)) (hl : lv_has ls 9 [(5, .int (nI i)), (4, .ref ae), (3, .ref aj), (2, .ref (am 0)), (1, .ref (ad 0)), (0, .ref b)]) (kk : ∀ {k1 : Nat} {r1 : Int32} {T1 : AT} {r2 : Int32} {S1 : MS} (ad2 : Nat → Nat) (f1 : Nat → Int64) (g1 : Nat → UInt64) (H1 : Heap) (locs1 : List Loc) (ls1 : Array Slot), g_X11_bestLag T 0 (xs (i + 1)) (xs (i + 2)) (xs (i + 3)) = some (k1, r1, T1) → fr_bestLag Sm (xs (i + 1)) (xs (i + 2)) (xs (i + 3)) = some (r2, S1) → ad2 0 = ad 0 → IV aR0 1586 aK1 aK2 T1 → RC T1 → JJ S1 → gL cI cJ cZ cMic cSrc cSt cAI cAJ D ad2 (fun q => s.heap.size ≤ q) s.heap H1 locs1 T1 (oJ aj cJ f1 :: oD ae cD g1 :: MW cI cJ cZ am S1) → lv_has ls1 9 [(5, .int (nI i)), (4, .ref ae), (3, .ref aj), (2, .ref (am 0)), (1, .ref (ad2 0)), (0, .ref b)] → W p l e room_1 s m #[Value.ref b] below meth c H1 locs1 (19 + T1.1 + (j + 1)) (38467 + sg T1 + 6 * (j + 1)) Q (F0 m 2439 ls1 [])) : W p l e room_1 s m #[Value.ref b] below meth c H locs (19 + T.1 + j) (38467 + sg T + 6 * j) Q (F0 m 1726 ls []) := by
  have E : cE p c cL_law s m #[Value.ref b] lw_tbl D RL (CT cI cJ cZ cMic cSrc cSt cAI cAJ ++ [(cD, .double)]) := ⟨hx, hb, hts, hown, hK⟩
  have hA : ∀ q : Nat, s.heap.size ≤ q → s.heap.size ≤ q := fun _ h => h
  have h0T : 0 < T.1 := Nat.lt_of_lt_of_le (by decide) hV.1.2.2
  have h0s : T.2.1 0 = (11, 0) := hV.2.1 0 ⟨by decide, by decide +kernel, by decide +kernel⟩
  refine lv_aload_n hx hb dL_law_1726 rfl (lv_at hl 4 rfl) ?_
  refine lv_aload_n hx hb dL_law_1727 rfl (lv_at hl 5 rfl) ?_
  refine lv_iload hx hb dL_law_1728 (lv_at hl 0 rfl) ?_
  refine lv_iconst (v := 1) hx hb dL_law_1730 (by decide) ?_
  refine lv_iadd hx hb dL_law_1731 ?_
  refine lv_to (y := nI (i + 1)) (nI_add i 1) ?_
  refine va_sld hx hb hX0 hbl (Nat.not_le.mpr hbl) G.2.2 (i := nI (i + 1)) (vp_in_nI (n := i + 1) (N := L) (by omega) (by omega)) dL_law_1732 ?_
  refine lv_to (y := xs (i + 1)) (congrArg xs (nI_clamp (by omega))) ?_
  refine lv_aload_n hx hb dL_law_1733 rfl (lv_at hl 5 rfl) ?_
  refine lv_iload hx hb dL_law_1734 (lv_at hl 0 rfl) ?_
  refine lv_iconst (v := 2) hx hb dL_law_1736 (by decide) ?_
  refine lv_iadd hx hb dL_law_1737 ?_
  refine lv_to (y := nI (i + 2)) (nI_add i 2) ?_
  refine va_sld hx hb hX0 hbl (Nat.not_le.mpr hbl) G.2.2 (i := nI (i + 2)) (vp_in_nI (n := i + 2) (N := L) (by omega) (by omega)) dL_law_1738 ?_
  refine lv_to (y := xs (i + 2)) (congrArg xs (nI_clamp (by omega))) ?_
  refine lv_aload_n hx hb dL_law_1739 rfl (lv_at hl 5 rfl) ?_
  refine lv_iload hx hb dL_law_1740 (lv_at hl 0 rfl) ?_
  refine lv_iconst (v := 3) hx hb dL_law_1742 (by decide) ?_
  refine lv_iadd hx hb dL_law_1743 ?_
  refine lv_to (y := nI (i + 3)) (nI_add i 3) ?_
  refine va_sld hx hb hX0 hbl (Nat.not_le.mpr hbl) G.2.2 (i := nI (i + 3)) (vp_in_nI (n := i + 3) (N := L) (by omega) (by omega)) dL_law_1744 ?_
  refine lv_to (y := xs (i + 3)) (congrArg xs (nI_clamp (by omega))) ?_
  refine lv_aload_n hx hb dL_law_1745 rfl (lv_at hl 2 rfl) ?_
  obtain ⟨⟨k1, r1, T1⟩, hg, hc⟩ := cs_X11_bestLag T 0 (xs (i + 1)) (xs (i + 2)) (xs (i + 3)) hV (by decide +kernel)
  have hV1 : IV aR0 1586 aK1 aK2 T1 := hc.1.1
  have hg1 := s_X11_bestLag hg
  have hg2 := sg_le hg1
  have hg3 := hg1.1
  have hk := hV1.2.2.2.2.2.2
  have hrc1 := hg1.2.2 hrc
  have hr0 := a_room
  refine l_v (h0 := s.heap.size) (As := [.ref (ad 0), .int (xs (i + 1)), .int (xs (i + 2)), .int (xs (i + 3)), .ref aj]) (rest := []) E G hA hX hN (fun _ h => h) hTS hml (v_bestLag l hst D s.heap.size ad T 0 (xs (i + 1)) (xs (i + 2)) (xs (i + 3)) aj f hg hrc h0T h0s) (vx_cwSW 5 hts (glA (L := [Cond.methodLink RL 342 yL_bestLag, Cond.static yL_bestLag, Cond.initialized RL]) (gl_in [(7, 13), (7, 14), (1, 0)] (by decide +kernel) (by decide +kernel)) ⟨(t_of [Cond.codeWith yL_bestLag cL_bestLag 6 (some .int) [(0, 12, 15, 21), (0, 12, 19, 13), (0, 12, 23, 15)]] [(7, 15)] (by decide +kernel) _ List.mem_cons_self), List.all_eq_true.mp (by decide +kernel : [Cond.codeWith yL_bestLag cL_bestLag 6 (some .int) [(0, 12, 15, 21), (0, 12, 19, 13), (0, 12, 23, 15)]].all goodWord = true) _ List.mem_cons_self⟩) rfl rfl rfl (by decide +kernel) ⟨Nat.le_of_ble_eq_true rfl, Nat.le_of_ble_eq_true rfl⟩) rfl hl.1 rfl (lv_room (Nat.le_of_ble_eq_true rfl)) dL_law_1746 ⟨by show _ ≤ 601024; omega, by show _ ≤ 7293034; omega⟩ ?_
  intro ad2 H locs had G
  rw [← had 0 h0T] at hl
  refine lv_istore (lv' := [(6, .int (vck 1 2 3 k1)), (5, .int (nI i)), (4, .ref ae), (3, .ref aj), (2, .ref (am 0)), (1, .ref (ad2 0)), (0, .ref b)]) hx hb dL_law_1749 hl (by decide) rfl (fun ls hl => ?_)
  refine lv_aload_n hx hb dL_law_1751 rfl (lv_at hl 4 rfl) ?_
  refine lv_aload_n hx hb dL_law_1752 rfl (lv_at hl 6 rfl) ?_
  refine lv_iload hx hb dL_law_1753 (lv_at hl 1 rfl) ?_
  refine lv_iconst (v := 1) hx hb dL_law_1755 (by decide) ?_
  refine lv_iadd hx hb dL_law_1756 ?_
  refine lv_to (y := nI (i + 1)) (nI_add i 1) ?_
  refine va_sld hx hb hX0 hbl (Nat.not_le.mpr hbl) G.2.2 (i := nI (i + 1)) (vp_in_nI (n := i + 1) (N := L) (by omega) (by omega)) dL_law_1757 ?_
  refine lv_to (y := xs (i + 1)) (congrArg xs (nI_clamp (by omega))) ?_
  refine lv_aload_n hx hb dL_law_1758 rfl (lv_at hl 6 rfl) ?_
  refine lv_iload hx hb dL_law_1759 (lv_at hl 1 rfl) ?_
  refine lv_iconst (v := 2) hx hb dL_law_1761 (by decide) ?_
  refine lv_iadd hx hb dL_law_1762 ?_
  refine lv_to (y := nI (i + 2)) (nI_add i 2) ?_
  refine va_sld hx hb hX0 hbl (Nat.not_le.mpr hbl) G.2.2 (i := nI (i + 2)) (vp_in_nI (n := i + 2) (N := L) (by omega) (by omega)) dL_law_1763 ?_
  refine lv_to (y := xs (i + 2)) (congrArg xs (nI_clamp (by omega))) ?_
  refine lv_aload_n hx hb dL_law_1764 rfl (lv_at hl 6 rfl) ?_
  refine lv_iload hx hb dL_law_1765 (lv_at hl 1 rfl) ?_
  refine lv_iconst (v := 3) hx hb dL_law_1767 (by decide) ?_
  refine lv_iadd hx hb dL_law_1768 ?_
  refine lv_to (y := nI (i + 3)) (nI_add i 3) ?_
  refine va_sld hx hb hX0 hbl (Nat.not_le.mpr hbl) G.2.2 (i := nI (i + 3)) (vp_in_nI (n := i + 3) (N := L) (by omega) (by omega)) dL_law_1769 ?_
  refine lv_to (y := xs (i + 3)) (congrArg xs (nI_clamp (by omega))) ?_
  obtain ⟨⟨r2, S1⟩, hf, hj⟩ := sj_bestLag Sm (xs (i + 1)) (xs (i + 2)) (xs (i + 3)) hJ
  have hJ1 : JJ S1 := hj
  refine y_mi (As := [.int (xs (i + 1)), .int (xs (i + 2)), .int (xs (i + 3))]) (rest := []) E G hA hX.2.2.2.2 hml (tr_bestLag l D cI cJ cZ am Sm (xs (i + 1)) (xs (i + 2)) (xs (i + 3)) hf) (cwV 3 hts (glM (L := [Cond.methodLink RL 344 yX12_bestLag, Cond.instanceMethod yX12_bestLag, Cond.selects RX12 yX12_bestLag yX12_bestLag, Cond.initialized RX12]) (gl_in [(10, 108), (10, 109), (10, 110), (1, 14)] (by decide +kernel) (by decide +kernel)) ⟨(t_of [Cond.code yX12_bestLag cX12_bestLag 6 (some .int)] [(10, 111)] (by decide +kernel) _ List.mem_cons_self), List.all_eq_true.mp (by decide +kernel : [Cond.code yX12_bestLag cX12_bestLag 6 (some .int)].all goodWord = true) _ List.mem_cons_self⟩) rfl rfl rfl (by decide +kernel) ⟨Nat.le_of_ble_eq_true rfl, Nat.le_of_ble_eq_true rfl⟩) rfl hl.1 rfl (lv_room (Nat.le_of_ble_eq_true rfl)) dL_law_1770 ⟨by show _ ≤ 601024; omega, by show _ ≤ 7293034; omega⟩ (fun H locs G => ?_)
  refine lv_istore (lv' := [(7, .int r2), (6, .int (vck 1 2 3 k1)), (5, .int (nI i)), (4, .ref ae), (3, .ref aj), (2, .ref (am 0)), (1, .ref (ad2 0)), (0, .ref b)]) hx hb dL_law_1773 hl (by decide) rfl (fun ls hl => ?_)
  refine lv_goto (tgt := 2439) hx hb dL_law_1775 (by decide) ?_
  have hl := lv_sub hl [2, 3, 4, 5, 6, 7] rfl
  refine W.widen (k := 19 + T1.1 + (j + 1)) (n := 38467 + sg T1 + 6 * (j + 1)) (by omega) (by omega) ?_
  exact kk ad2 (vfJ k1 f r1.toInt64) g H locs ls hg hf (had 0 h0T) hV1 hrc1 hJ1 G hl
set_option maxHeartbeats 4000000 in
set_option maxRecDepth 100000 in
theorem y_a45 {p : Program} {e : Env} {s : State} {m : MethodId} {below : List Frame} {meth : Method} {c : Code} (l : Launch) (hst : l.stackTraces = false) {b L : Nat} {xs : Nat → Int32} (hx : p.tables.exec = Jvm.exec) (hb : c.code = code) (hml : c.maxLocals = 9) (hown : s.vm.findClass RL = some m.cls) (hts : ∀ w ∈ lw_tbl, w.before #[Value.ref b] s = true) (hX0 : va_X b L xs s s.heap) (hbl : b < s.heap.size) (hX : xT (fun q => s.heap.size ≤ q) s) (hN : nC s) (hTS : sAll s.heap.size s) {D : va_G} {cI cJ cZ cMic cSrc cSt cAI cAJ cD : ClassId} (hK : va_K D vwCl (CT cI cJ cZ cMic cSrc cSt cAI cAJ ++ [(cD, .double)]) s) {Q : State → Prop} {i j : Nat} (hi : i + 6 ≤ L) (hL : L ≤ 3072) (hj : j < 512) {aj ae : Nat} {ad am : Nat → Nat} {T : AT} {Sm : MS} {f : Nat → Int64} {g : Nat → UInt64} {ls : Array Slot} {H : Heap} {locs : List Loc} (hV : IV aR0 1586 aK1 aK2 T) (hrc : RC T) (hJ : JJ Sm) (G : gL cI cJ cZ cMic cSrc cSt cAI cAJ D ad (fun q => s.heap.size ≤ q) s.heap H locs T (oJ aj cJ f :: oD ae cD g :: MW cI cJ cZ am Sm)) (hl : lv_has ls 9 [(5, .int (nI i)), (4, .ref ae), (3, .ref aj), (2, .ref (am 0)), (1, .ref (ad 0)), (0, .ref b)]) (kk : ∀ {k1 : Nat} {r1 : Int64} {T1 : AT} {r2 : Int64} {S1 : MS} (ad2 : Nat → Nat) (f1 : Nat → Int64) (g1 : Nat → UInt64) (H1 : Heap) (locs1 : List Loc) (ls1 : Array Slot), g_X11_level T 0 (xs (i + 1)) = some (k1, r1, T1) → fr_level Sm (xs (i + 1)) = some (r2, S1) → ad2 0 = ad 0 → IV aR0 1586 aK1 aK2 T1 → RC T1 → JJ S1 → gL cI cJ cZ cMic cSrc cSt cAI cAJ D ad2 (fun q => s.heap.size ≤ q) s.heap H1 locs1 T1 (oJ aj cJ f1 :: oD ae cD g1 :: MW cI cJ cZ am S1) → lv_has ls1 9 [(5, .int (nI i)), (4, .ref ae), (3, .ref aj), (2, .ref (am 0)), (1, .ref (ad2 0)), (0, .ref b)] → W p l e room_1 s m #[Value.ref b] below meth c H1 locs1 (19 + T1.1 + (j + 1)) (38467 + sg T1 + 6 * (j + 1)) Q (F0 m 2439 ls1 [])) : W p l e room_1 s m #[Value.ref b] below meth c H locs (19 + T.1 + j) (38467 + sg T + 6 * j) Q (F0 m 1778 ls []) := by
  have E : cE p c cL_law s m #[Value.ref b] lw_tbl D RL (CT cI cJ cZ cMic cSrc cSt cAI cAJ ++ [(cD, .double)]) := ⟨hx, hb, hts, hown, hK⟩
  have hA : ∀ q : Nat, s.heap.size ≤ q → s.heap.size ≤ q := fun _ h => h
  have h0T : 0 < T.1 := Nat.lt_of_lt_of_le (by decide) hV.1.2.2
  have h0s : T.2.1 0 = (11, 0) := hV.2.1 0 ⟨by decide, by decide +kernel, by decide +kernel⟩
  refine lv_aload_n hx hb dL_law_1778 rfl (lv_at hl 4 rfl) ?_
  refine lv_aload_n hx hb dL_law_1779 rfl (lv_at hl 5 rfl) ?_
  refine lv_iload hx hb dL_law_1780 (lv_at hl 0 rfl) ?_
  refine lv_iconst (v := 1) hx hb dL_law_1782 (by decide) ?_
  refine lv_iadd hx hb dL_law_1783 ?_
  refine lv_to (y := nI (i + 1)) (nI_add i 1) ?_
  refine va_sld hx hb hX0 hbl (Nat.not_le.mpr hbl) G.2.2 (i := nI (i + 1)) (vp_in_nI (n := i + 1) (N := L) (by omega) (by omega)) dL_law_1784 ?_
  refine lv_to (y := xs (i + 1)) (congrArg xs (nI_clamp (by omega))) ?_
  refine lv_aload_n hx hb dL_law_1785 rfl (lv_at hl 2 rfl) ?_
  obtain ⟨⟨k1, r1, T1⟩, hg, hc⟩ := cs_X11_level T 0 (xs (i + 1)) hV (by decide +kernel)
  have hV1 : IV aR0 1586 aK1 aK2 T1 := hc.1.1
  have hg1 := s_X11_level hg
  have hg2 := sg_le hg1
  have hg3 := hg1.1
  have hk := hV1.2.2.2.2.2.2
  have hrc1 := hg1.2.2 hrc
  have hr0 := a_room
  refine l_v (h0 := s.heap.size) (As := [.ref (ad 0), .int (xs (i + 1)), .ref aj]) (rest := []) E G hA hX hN (fun _ h => h) hTS hml (v_level l hst D s.heap.size ad T 0 (xs (i + 1)) aj f hg hrc h0T h0s) (vx_cwSW 3 hts (glA (L := [Cond.methodLink RL 345 yL_level, Cond.static yL_level, Cond.initialized RL]) (gl_in [(7, 20), (7, 21), (1, 0)] (by decide +kernel) (by decide +kernel)) ⟨(t_of [Cond.codeWith yL_level cL_level 4 (some .int) [(0, 8, 11, 21), (0, 8, 14, 13)]] [(7, 22)] (by decide +kernel) _ List.mem_cons_self), List.all_eq_true.mp (by decide +kernel : [Cond.codeWith yL_level cL_level 4 (some .int) [(0, 8, 11, 21), (0, 8, 14, 13)]].all goodWord = true) _ List.mem_cons_self⟩) rfl rfl rfl (by decide +kernel) ⟨Nat.le_of_ble_eq_true rfl, Nat.le_of_ble_eq_true rfl⟩) rfl hl.1 rfl (lv_room (Nat.le_of_ble_eq_true rfl)) dL_law_1786 ⟨by show _ ≤ 601024; omega, by show _ ≤ 7293034; omega⟩ ?_
  intro ad2 H locs had G
  rw [← had 0 h0T] at hl
  refine lv_istore (lv' := [(6, .int (vck 1 2 0 k1)), (5, .int (nI i)), (4, .ref ae), (3, .ref aj), (2, .ref (am 0)), (1, .ref (ad2 0)), (0, .ref b)]) hx hb dL_law_1789 hl (by decide) rfl (fun ls hl => ?_)
  refine lv_aload_n hx hb dL_law_1791 rfl (lv_at hl 4 rfl) ?_
  refine lv_aload_n hx hb dL_law_1792 rfl (lv_at hl 6 rfl) ?_
  refine lv_iload hx hb dL_law_1793 (lv_at hl 1 rfl) ?_
  refine lv_iconst (v := 1) hx hb dL_law_1795 (by decide) ?_
  refine lv_iadd hx hb dL_law_1796 ?_
  refine lv_to (y := nI (i + 1)) (nI_add i 1) ?_
  refine va_sld hx hb hX0 hbl (Nat.not_le.mpr hbl) G.2.2 (i := nI (i + 1)) (vp_in_nI (n := i + 1) (N := L) (by omega) (by omega)) dL_law_1797 ?_
  refine lv_to (y := xs (i + 1)) (congrArg xs (nI_clamp (by omega))) ?_
  obtain ⟨⟨r2, S1⟩, hf, hj⟩ := sj_level Sm (xs (i + 1)) hJ
  have hJ1 : JJ S1 := hj
  refine y_ml (As := [.int (xs (i + 1))]) (rest := []) E G hA hX.2.2.2.2 hml (tr_level l D cI cJ cZ am Sm (xs (i + 1)) hf) (cwV 1 hts (glM (L := [Cond.methodLink RL 347 yX12_level, Cond.instanceMethod yX12_level, Cond.selects RX12 yX12_level yX12_level, Cond.initialized RX12]) (gl_in [(10, 112), (10, 113), (10, 114), (1, 14)] (by decide +kernel) (by decide +kernel)) ⟨(t_of [Cond.code yX12_level cX12_level 2 (some .long)] [(10, 115)] (by decide +kernel) _ List.mem_cons_self), List.all_eq_true.mp (by decide +kernel : [Cond.code yX12_level cX12_level 2 (some .long)].all goodWord = true) _ List.mem_cons_self⟩) rfl rfl rfl (by decide +kernel) ⟨Nat.le_of_ble_eq_true rfl, Nat.le_of_ble_eq_true rfl⟩) rfl hl.1 rfl (lv_room (Nat.le_of_ble_eq_true rfl)) dL_law_1798 ⟨by show _ ≤ 601024; omega, by show _ ≤ 7293034; omega⟩ (fun H locs G => ?_)
  refine lv_lstore (lv' := [(7, .long r2), (6, .int (vck 1 2 0 k1)), (5, .int (nI i)), (4, .ref ae), (3, .ref aj), (2, .ref (am 0)), (1, .ref (ad2 0)), (0, .ref b)]) hx hb dL_law_1801 hl (by decide) rfl (fun ls hl => ?_)
  refine lv_goto (tgt := 2439) hx hb dL_law_1803 (by decide) ?_
  have hl := lv_sub hl [2, 3, 4, 5, 6, 7] rfl
  refine W.widen (k := 19 + T1.1 + (j + 1)) (n := 38467 + sg T1 + 6 * (j + 1)) (by omega) (by omega) ?_
  exact kk ad2 (vfJ k1 f r1) g H locs ls hg hf (had 0 h0T) hV1 hrc1 hJ1 G hl
set_option maxHeartbeats 4000000 in
set_option maxRecDepth 100000 in
theorem y_a46 {p : Program} {e : Env} {s : State} {m : MethodId} {below : List Frame} {meth : Method} {c : Code} (l : Launch) (hst : l.stackTraces = false) {b L : Nat} {xs : Nat → Int32} (hx : p.tables.exec = Jvm.exec) (hb : c.code = code) (hml : c.maxLocals = 9) (hown : s.vm.findClass RL = some m.cls) (hts : ∀ w ∈ lw_tbl, w.before #[Value.ref b] s = true) (hX0 : va_X b L xs s s.heap) (hbl : b < s.heap.size) (hX : xT (fun q => s.heap.size ≤ q) s) (hN : nC s) (hTS : sAll s.heap.size s) {D : va_G} {cI cJ cZ cMic cSrc cSt cAI cAJ cD : ClassId} (hK : va_K D vwCl (CT cI cJ cZ cMic cSrc cSt cAI cAJ ++ [(cD, .double)]) s) {Q : State → Prop} {i j : Nat} (hi : i + 6 ≤ L) (hL : L ≤ 3072) (hj : j < 512) {aj ae : Nat} {ad am : Nat → Nat} {T : AT} {Sm : MS} {f : Nat → Int64} {g : Nat → UInt64} {ls : Array Slot} {H : Heap} {locs : List Loc} (hV : IV aR0 1586 aK1 aK2 T) (hrc : RC T) (hJ : JJ Sm) (G : gL cI cJ cZ cMic cSrc cSt cAI cAJ D ad (fun q => s.heap.size ≤ q) s.heap H locs T (oJ aj cJ f :: oD ae cD g :: MW cI cJ cZ am Sm)) (hl : lv_has ls 9 [(5, .int (nI i)), (4, .ref ae), (3, .ref aj), (2, .ref (am 0)), (1, .ref (ad 0)), (0, .ref b)]) (kk : ∀ {k1 : Nat} {r1 : Int32} {T1 : AT} {r2 : Int32} {S1 : MS} (ad2 : Nat → Nat) (f1 : Nat → Int64) (g1 : Nat → UInt64) (H1 : Heap) (locs1 : List Loc) (ls1 : Array Slot), g_X11_loudest T 0 (xs (i + 1)) = some (k1, r1, T1) → fr_loudest Sm (xs (i + 1)) = some (r2, S1) → ad2 0 = ad 0 → IV aR0 1586 aK1 aK2 T1 → RC T1 → JJ S1 → gL cI cJ cZ cMic cSrc cSt cAI cAJ D ad2 (fun q => s.heap.size ≤ q) s.heap H1 locs1 T1 (oJ aj cJ f1 :: oD ae cD g1 :: MW cI cJ cZ am S1) → lv_has ls1 9 [(5, .int (nI i)), (4, .ref ae), (3, .ref aj), (2, .ref (am 0)), (1, .ref (ad2 0)), (0, .ref b)] → W p l e room_1 s m #[Value.ref b] below meth c H1 locs1 (19 + T1.1 + (j + 1)) (38467 + sg T1 + 6 * (j + 1)) Q (F0 m 2439 ls1 [])) : W p l e room_1 s m #[Value.ref b] below meth c H locs (19 + T.1 + j) (38467 + sg T + 6 * j) Q (F0 m 1806 ls []) := by
  have E : cE p c cL_law s m #[Value.ref b] lw_tbl D RL (CT cI cJ cZ cMic cSrc cSt cAI cAJ ++ [(cD, .double)]) := ⟨hx, hb, hts, hown, hK⟩
  have hA : ∀ q : Nat, s.heap.size ≤ q → s.heap.size ≤ q := fun _ h => h
  have h0T : 0 < T.1 := Nat.lt_of_lt_of_le (by decide) hV.1.2.2
  have h0s : T.2.1 0 = (11, 0) := hV.2.1 0 ⟨by decide, by decide +kernel, by decide +kernel⟩
  refine lv_aload_n hx hb dL_law_1806 rfl (lv_at hl 4 rfl) ?_
  refine lv_aload_n hx hb dL_law_1807 rfl (lv_at hl 5 rfl) ?_
  refine lv_iload hx hb dL_law_1808 (lv_at hl 0 rfl) ?_
  refine lv_iconst (v := 1) hx hb dL_law_1810 (by decide) ?_
  refine lv_iadd hx hb dL_law_1811 ?_
  refine lv_to (y := nI (i + 1)) (nI_add i 1) ?_
  refine va_sld hx hb hX0 hbl (Nat.not_le.mpr hbl) G.2.2 (i := nI (i + 1)) (vp_in_nI (n := i + 1) (N := L) (by omega) (by omega)) dL_law_1812 ?_
  refine lv_to (y := xs (i + 1)) (congrArg xs (nI_clamp (by omega))) ?_
  refine lv_aload_n hx hb dL_law_1813 rfl (lv_at hl 2 rfl) ?_
  obtain ⟨⟨k1, r1, T1⟩, hg, hc⟩ := cs_X11_loudest T 0 (xs (i + 1)) hV (by decide +kernel)
  have hV1 : IV aR0 1586 aK1 aK2 T1 := hc.1.1
  have hg1 := s_X11_loudest hg
  have hg2 := sg_le hg1
  have hg3 := hg1.1
  have hk := hV1.2.2.2.2.2.2
  have hrc1 := hg1.2.2 hrc
  have hr0 := a_room
  refine l_v (h0 := s.heap.size) (As := [.ref (ad 0), .int (xs (i + 1)), .ref aj]) (rest := []) E G hA hX hN (fun _ h => h) hTS hml (v_loudest l hst D s.heap.size ad T 0 (xs (i + 1)) aj f hg hrc h0T h0s) (vx_cwSW 3 hts (glA (L := [Cond.methodLink RL 348 yL_loudest, Cond.static yL_loudest, Cond.initialized RL]) (gl_in [(7, 31), (7, 32), (1, 0)] (by decide +kernel) (by decide +kernel)) ⟨(t_of [Cond.codeWith yL_loudest cL_loudest 4 (some .int) [(0, 9, 12, 21), (0, 9, 15, 13)]] [(7, 33)] (by decide +kernel) _ List.mem_cons_self), List.all_eq_true.mp (by decide +kernel : [Cond.codeWith yL_loudest cL_loudest 4 (some .int) [(0, 9, 12, 21), (0, 9, 15, 13)]].all goodWord = true) _ List.mem_cons_self⟩) rfl rfl rfl (by decide +kernel) ⟨Nat.le_of_ble_eq_true rfl, Nat.le_of_ble_eq_true rfl⟩) rfl hl.1 rfl (lv_room (Nat.le_of_ble_eq_true rfl)) dL_law_1814 ⟨by show _ ≤ 601024; omega, by show _ ≤ 7293034; omega⟩ ?_
  intro ad2 H locs had G
  rw [← had 0 h0T] at hl
  refine lv_istore (lv' := [(6, .int (vck 1 2 0 k1)), (5, .int (nI i)), (4, .ref ae), (3, .ref aj), (2, .ref (am 0)), (1, .ref (ad2 0)), (0, .ref b)]) hx hb dL_law_1817 hl (by decide) rfl (fun ls hl => ?_)
  refine lv_aload_n hx hb dL_law_1819 rfl (lv_at hl 4 rfl) ?_
  refine lv_aload_n hx hb dL_law_1820 rfl (lv_at hl 6 rfl) ?_
  refine lv_iload hx hb dL_law_1821 (lv_at hl 1 rfl) ?_
  refine lv_iconst (v := 1) hx hb dL_law_1823 (by decide) ?_
  refine lv_iadd hx hb dL_law_1824 ?_
  refine lv_to (y := nI (i + 1)) (nI_add i 1) ?_
  refine va_sld hx hb hX0 hbl (Nat.not_le.mpr hbl) G.2.2 (i := nI (i + 1)) (vp_in_nI (n := i + 1) (N := L) (by omega) (by omega)) dL_law_1825 ?_
  refine lv_to (y := xs (i + 1)) (congrArg xs (nI_clamp (by omega))) ?_
  obtain ⟨⟨r2, S1⟩, hf, hj⟩ := sj_loudest Sm (xs (i + 1)) hJ
  have hJ1 : JJ S1 := hj
  refine y_mi (As := [.int (xs (i + 1))]) (rest := []) E G hA hX.2.2.2.2 hml (tr_loudest l D cI cJ cZ am Sm (xs (i + 1)) hf) (cwV 1 hts (glM (L := [Cond.methodLink RL 350 yX12_loudest, Cond.instanceMethod yX12_loudest, Cond.selects RX12 yX12_loudest yX12_loudest, Cond.initialized RX12]) (gl_in [(10, 120), (10, 121), (10, 122), (1, 14)] (by decide +kernel) (by decide +kernel)) ⟨(t_of [Cond.code yX12_loudest cX12_loudest 5 (some .int)] [(10, 123)] (by decide +kernel) _ List.mem_cons_self), List.all_eq_true.mp (by decide +kernel : [Cond.code yX12_loudest cX12_loudest 5 (some .int)].all goodWord = true) _ List.mem_cons_self⟩) rfl rfl rfl (by decide +kernel) ⟨Nat.le_of_ble_eq_true rfl, Nat.le_of_ble_eq_true rfl⟩) rfl hl.1 rfl (lv_room (Nat.le_of_ble_eq_true rfl)) dL_law_1826 ⟨by show _ ≤ 601024; omega, by show _ ≤ 7293034; omega⟩ (fun H locs G => ?_)
  refine lv_istore (lv' := [(7, .int r2), (6, .int (vck 1 2 0 k1)), (5, .int (nI i)), (4, .ref ae), (3, .ref aj), (2, .ref (am 0)), (1, .ref (ad2 0)), (0, .ref b)]) hx hb dL_law_1829 hl (by decide) rfl (fun ls hl => ?_)
  refine lv_goto (tgt := 2439) hx hb dL_law_1831 (by decide) ?_
  have hl := lv_sub hl [2, 3, 4, 5, 6, 7] rfl
  refine W.widen (k := 19 + T1.1 + (j + 1)) (n := 38467 + sg T1 + 6 * (j + 1)) (by omega) (by omega) ?_
  exact kk ad2 (vfJ k1 f r1.toInt64) g H locs ls hg hf (had 0 h0T) hV1 hrc1 hJ1 G hl
set_option maxHeartbeats 4000000 in
set_option maxRecDepth 100000 in
theorem y_a47 {p : Program} {e : Env} {s : State} {m : MethodId} {below : List Frame} {meth : Method} {c : Code} (l : Launch) (hst : l.stackTraces = false) {b L : Nat} {xs : Nat → Int32} (hx : p.tables.exec = Jvm.exec) (hb : c.code = code) (hml : c.maxLocals = 9) (hown : s.vm.findClass RL = some m.cls) (hts : ∀ w ∈ lw_tbl, w.before #[Value.ref b] s = true) (hX0 : va_X b L xs s s.heap) (hbl : b < s.heap.size) (hX : xT (fun q => s.heap.size ≤ q) s) (hN : nC s) (hTS : sAll s.heap.size s) {D : va_G} {cI cJ cZ cMic cSrc cSt cAI cAJ cD : ClassId} (hK : va_K D vwCl (CT cI cJ cZ cMic cSrc cSt cAI cAJ ++ [(cD, .double)]) s) {Q : State → Prop} {i j : Nat} (hi : i + 6 ≤ L) (hL : L ≤ 3072) (hj : j < 512) {aj ae : Nat} {ad am : Nat → Nat} {T : AT} {Sm : MS} {f : Nat → Int64} {g : Nat → UInt64} {ls : Array Slot} {H : Heap} {locs : List Loc} (hV : IV aR0 1586 aK1 aK2 T) (hrc : RC T) (hJ : JJ Sm) (G : gL cI cJ cZ cMic cSrc cSt cAI cAJ D ad (fun q => s.heap.size ≤ q) s.heap H locs T (oJ aj cJ f :: oD ae cD g :: MW cI cJ cZ am Sm)) (hl : lv_has ls 9 [(5, .int (nI i)), (4, .ref ae), (3, .ref aj), (2, .ref (am 0)), (1, .ref (ad 0)), (0, .ref b)]) (kk : ∀ {k1 : Nat} {r1 : Int32} {T1 : AT} {r2 : Int32} {S1 : MS} (ad2 : Nat → Nat) (f1 : Nat → Int64) (g1 : Nat → UInt64) (H1 : Heap) (locs1 : List Loc) (ls1 : Array Slot), g_X11_writeMap T 0 = some (k1, r1, T1) → fr_writeMap Sm = some (r2, S1) → ad2 0 = ad 0 → IV aR0 1586 aK1 aK2 T1 → RC T1 → JJ S1 → gL cI cJ cZ cMic cSrc cSt cAI cAJ D ad2 (fun q => s.heap.size ≤ q) s.heap H1 locs1 T1 (oJ aj cJ f1 :: oD ae cD g1 :: MW cI cJ cZ am S1) → lv_has ls1 9 [(5, .int (nI i)), (4, .ref ae), (3, .ref aj), (2, .ref (am 0)), (1, .ref (ad2 0)), (0, .ref b)] → W p l e room_1 s m #[Value.ref b] below meth c H1 locs1 (19 + T1.1 + (j + 1)) (38467 + sg T1 + 6 * (j + 1)) Q (F0 m 2439 ls1 [])) : W p l e room_1 s m #[Value.ref b] below meth c H locs (19 + T.1 + j) (38467 + sg T + 6 * j) Q (F0 m 1834 ls []) := by
  have E : cE p c cL_law s m #[Value.ref b] lw_tbl D RL (CT cI cJ cZ cMic cSrc cSt cAI cAJ ++ [(cD, .double)]) := ⟨hx, hb, hts, hown, hK⟩
  have hA : ∀ q : Nat, s.heap.size ≤ q → s.heap.size ≤ q := fun _ h => h
  have h0T : 0 < T.1 := Nat.lt_of_lt_of_le (by decide) hV.1.2.2
  have h0s : T.2.1 0 = (11, 0) := hV.2.1 0 ⟨by decide, by decide +kernel, by decide +kernel⟩
  refine lv_aload_n hx hb dL_law_1834 rfl (lv_at hl 4 rfl) ?_
  refine lv_aload_n hx hb dL_law_1835 rfl (lv_at hl 2 rfl) ?_
  obtain ⟨⟨k1, r1, T1⟩, hg, hc⟩ := cs_X11_writeMap T 0 hV (by decide +kernel)
  have hV1 : IV aR0 1586 aK1 aK2 T1 := hc.1.1
  have hg1 := s_X11_writeMap hg
  have hg2 := sg_le hg1
  have hg3 := hg1.1
  have hk := hV1.2.2.2.2.2.2
  have hrc1 := hg1.2.2 hrc
  have hr0 := a_room
  refine l_v (h0 := s.heap.size) (As := [.ref (ad 0), .ref aj]) (rest := []) E G hA hX hN (fun _ h => h) hTS hml (v_writeMap l hst D s.heap.size ad T 0  aj f hg hrc h0T h0s) (vx_cwSW 2 hts (glA (L := [Cond.methodLink RL 351 yL_writeMap, Cond.static yL_writeMap, Cond.initialized RL]) (gl_in [(7, 39), (7, 40), (1, 0)] (by decide +kernel) (by decide +kernel)) ⟨(t_of [Cond.codeWith yL_writeMap cL_writeMap 3 (some .int) [(0, 8, 11, 21)]] [(7, 41)] (by decide +kernel) _ List.mem_cons_self), List.all_eq_true.mp (by decide +kernel : [Cond.codeWith yL_writeMap cL_writeMap 3 (some .int) [(0, 8, 11, 21)]].all goodWord = true) _ List.mem_cons_self⟩) rfl rfl rfl (by decide +kernel) ⟨Nat.le_of_ble_eq_true rfl, Nat.le_of_ble_eq_true rfl⟩) rfl hl.1 rfl (lv_room (Nat.le_of_ble_eq_true rfl)) dL_law_1836 ⟨by show _ ≤ 601024; omega, by show _ ≤ 7293034; omega⟩ ?_
  intro ad2 H locs had G
  rw [← had 0 h0T] at hl
  refine lv_istore (lv' := [(6, .int (vck 1 0 0 k1)), (5, .int (nI i)), (4, .ref ae), (3, .ref aj), (2, .ref (am 0)), (1, .ref (ad2 0)), (0, .ref b)]) hx hb dL_law_1839 hl (by decide) rfl (fun ls hl => ?_)
  refine lv_aload_n hx hb dL_law_1841 rfl (lv_at hl 4 rfl) ?_
  obtain ⟨⟨r2, S1⟩, hf, hj⟩ := sj_writeMap Sm hJ
  have hJ1 : JJ S1 := hj
  refine y_mi (As := []) (rest := []) E G hA hX.2.2.2.2 hml (tr_writeMap l D cI cJ cZ am Sm  hf) (cwV 0 hts (glM (L := [Cond.methodLink RL 353 yX12_writeMap, Cond.instanceMethod yX12_writeMap, Cond.selects RX12 yX12_writeMap yX12_writeMap, Cond.initialized RX12]) (gl_in [(10, 124), (10, 125), (10, 126), (1, 14)] (by decide +kernel) (by decide +kernel)) ⟨(t_of [Cond.code yX12_writeMap cX12_writeMap 4 (some .int)] [(10, 127)] (by decide +kernel) _ List.mem_cons_self), List.all_eq_true.mp (by decide +kernel : [Cond.code yX12_writeMap cX12_writeMap 4 (some .int)].all goodWord = true) _ List.mem_cons_self⟩) rfl rfl rfl (by decide +kernel) ⟨Nat.le_of_ble_eq_true rfl, Nat.le_of_ble_eq_true rfl⟩) rfl hl.1 rfl (lv_room (Nat.le_of_ble_eq_true rfl)) dL_law_1842 ⟨by show _ ≤ 601024; omega, by show _ ≤ 7293034; omega⟩ (fun H locs G => ?_)
  refine lv_istore (lv' := [(7, .int r2), (6, .int (vck 1 0 0 k1)), (5, .int (nI i)), (4, .ref ae), (3, .ref aj), (2, .ref (am 0)), (1, .ref (ad2 0)), (0, .ref b)]) hx hb dL_law_1845 hl (by decide) rfl (fun ls hl => ?_)
  refine lv_goto (tgt := 2439) hx hb dL_law_1847 (by decide) ?_
  have hl := lv_sub hl [2, 3, 4, 5, 6, 7] rfl
  refine W.widen (k := 19 + T1.1 + (j + 1)) (n := 38467 + sg T1 + 6 * (j + 1)) (by omega) (by omega) ?_
  exact kk ad2 (vfJ k1 f r1.toInt64) g H locs ls hg hf (had 0 h0T) hV1 hrc1 hJ1 G hl
end
section
/-! 17g.arm6.lean.txt -/
theorem dL_law_1850 : decode cL_law 1850 = .ok (.aload_n 1, 1) := de_43 (lb_115 (j := 10) (b := 43) rfl)
theorem dL_law_1851 : decode cL_law 1851 = .ok (.aload_n 0, 1) := de_42 (lb_115 (j := 11) (b := 42) rfl)
theorem dL_law_1852 : decode cL_law 1852 = .ok (.iload 5, 2) := de_21 (lb_115 (j := 12) (b := 21) rfl) (lb_115 (j := 13) (b := 5) rfl) rfl
theorem dL_law_1854 : decode cL_law 1854 = .ok (.iconst 1, 1) := de_4 (lb_115 (j := 14) (b := 4) rfl)
theorem dL_law_1855 : decode cL_law 1855 = .ok (.iadd, 1) := de_96 (lb_115 (j := 15) (b := 96) rfl)
theorem dL_law_1856 : decode cL_law 1856 = .ok (.iaload, 1) := de_46 (lb_116 (j := 0) (b := 46) rfl)
theorem dL_law_1857 : decode cL_law 1857 = .ok (.aload_n 3, 1) := de_45 (lb_116 (j := 1) (b := 45) rfl)
theorem dL_law_1858 : decode cL_law 1858 = .ok (.invokestatic 354, 3) := de_184 (lb_116 (j := 2) (b := 184) rfl) (lb_116 (j := 3) (b := 1) rfl) (lb_116 (j := 4) (b := 98) rfl) rfl
theorem dL_law_1861 : decode cL_law 1861 = .ok (.istore 6, 2) := de_54 (lb_116 (j := 5) (b := 54) rfl) (lb_116 (j := 6) (b := 6) rfl) rfl
theorem dL_law_1863 : decode cL_law 1863 = .ok (.aload_n 2, 1) := de_44 (lb_116 (j := 7) (b := 44) rfl)
theorem dL_law_1864 : decode cL_law 1864 = .ok (.aload_n 0, 1) := de_42 (lb_116 (j := 8) (b := 42) rfl)
theorem dL_law_1865 : decode cL_law 1865 = .ok (.iload 5, 2) := de_21 (lb_116 (j := 9) (b := 21) rfl) (lb_116 (j := 10) (b := 5) rfl) rfl
theorem dL_law_1867 : decode cL_law 1867 = .ok (.iconst 1, 1) := de_4 (lb_116 (j := 11) (b := 4) rfl)
theorem dL_law_1868 : decode cL_law 1868 = .ok (.iadd, 1) := de_96 (lb_116 (j := 12) (b := 96) rfl)
theorem dL_law_1869 : decode cL_law 1869 = .ok (.iaload, 1) := de_46 (lb_116 (j := 13) (b := 46) rfl)
theorem dL_law_1870 : decode cL_law 1870 = .ok (.invokevirtual 356, 3) := de_182 (lb_116 (j := 14) (b := 182) rfl) (lb_116 (j := 15) (b := 1) rfl) (lb_117 (j := 0) (b := 100) rfl) rfl
theorem dL_law_1873 : decode cL_law 1873 = .ok (.istore 7, 2) := de_54 (lb_117 (j := 1) (b := 54) rfl) (lb_117 (j := 2) (b := 7) rfl) rfl
theorem dL_law_1875 : decode cL_law 1875 = .ok (.goto 564, 3) := de_167 (lb_117 (j := 3) (b := 167) rfl) (lb_117 (j := 4) (b := 2) rfl) (lb_117 (j := 5) (b := 52) rfl) (by decide +kernel)
theorem dL_law_1878 : decode cL_law 1878 = .ok (.aload_n 1, 1) := de_43 (lb_117 (j := 6) (b := 43) rfl)
theorem dL_law_1879 : decode cL_law 1879 = .ok (.aload_n 0, 1) := de_42 (lb_117 (j := 7) (b := 42) rfl)
theorem dL_law_1880 : decode cL_law 1880 = .ok (.iload 5, 2) := de_21 (lb_117 (j := 8) (b := 21) rfl) (lb_117 (j := 9) (b := 5) rfl) rfl
theorem dL_law_1882 : decode cL_law 1882 = .ok (.iconst 1, 1) := de_4 (lb_117 (j := 10) (b := 4) rfl)
theorem dL_law_1883 : decode cL_law 1883 = .ok (.iadd, 1) := de_96 (lb_117 (j := 11) (b := 96) rfl)
theorem dL_law_1884 : decode cL_law 1884 = .ok (.iaload, 1) := de_46 (lb_117 (j := 12) (b := 46) rfl)
theorem dL_law_1885 : decode cL_law 1885 = .ok (.aload_n 0, 1) := de_42 (lb_117 (j := 13) (b := 42) rfl)
theorem dL_law_1886 : decode cL_law 1886 = .ok (.iload 5, 2) := de_21 (lb_117 (j := 14) (b := 21) rfl) (lb_117 (j := 15) (b := 5) rfl) rfl
theorem dL_law_1888 : decode cL_law 1888 = .ok (.iconst 2, 1) := de_5 (lb_118 (j := 0) (b := 5) rfl)
theorem dL_law_1889 : decode cL_law 1889 = .ok (.iadd, 1) := de_96 (lb_118 (j := 1) (b := 96) rfl)
theorem dL_law_1890 : decode cL_law 1890 = .ok (.iaload, 1) := de_46 (lb_118 (j := 2) (b := 46) rfl)
theorem dL_law_1891 : decode cL_law 1891 = .ok (.aload_n 3, 1) := de_45 (lb_118 (j := 3) (b := 45) rfl)
theorem dL_law_1892 : decode cL_law 1892 = .ok (.invokestatic 357, 3) := de_184 (lb_118 (j := 4) (b := 184) rfl) (lb_118 (j := 5) (b := 1) rfl) (lb_118 (j := 6) (b := 101) rfl) rfl
theorem dL_law_1895 : decode cL_law 1895 = .ok (.istore 6, 2) := de_54 (lb_118 (j := 7) (b := 54) rfl) (lb_118 (j := 8) (b := 6) rfl) rfl
theorem dL_law_1897 : decode cL_law 1897 = .ok (.aload_n 2, 1) := de_44 (lb_118 (j := 9) (b := 44) rfl)
theorem dL_law_1898 : decode cL_law 1898 = .ok (.aload_n 0, 1) := de_42 (lb_118 (j := 10) (b := 42) rfl)
theorem dL_law_1899 : decode cL_law 1899 = .ok (.iload 5, 2) := de_21 (lb_118 (j := 11) (b := 21) rfl) (lb_118 (j := 12) (b := 5) rfl) rfl
theorem dL_law_1901 : decode cL_law 1901 = .ok (.iconst 1, 1) := de_4 (lb_118 (j := 13) (b := 4) rfl)
theorem dL_law_1902 : decode cL_law 1902 = .ok (.iadd, 1) := de_96 (lb_118 (j := 14) (b := 96) rfl)
theorem dL_law_1903 : decode cL_law 1903 = .ok (.iaload, 1) := de_46 (lb_118 (j := 15) (b := 46) rfl)
theorem dL_law_1904 : decode cL_law 1904 = .ok (.aload_n 0, 1) := de_42 (lb_119 (j := 0) (b := 42) rfl)
theorem dL_law_1905 : decode cL_law 1905 = .ok (.iload 5, 2) := de_21 (lb_119 (j := 1) (b := 21) rfl) (lb_119 (j := 2) (b := 5) rfl) rfl
theorem dL_law_1907 : decode cL_law 1907 = .ok (.iconst 2, 1) := de_5 (lb_119 (j := 3) (b := 5) rfl)
theorem dL_law_1908 : decode cL_law 1908 = .ok (.iadd, 1) := de_96 (lb_119 (j := 4) (b := 96) rfl)
theorem dL_law_1909 : decode cL_law 1909 = .ok (.iaload, 1) := de_46 (lb_119 (j := 5) (b := 46) rfl)
theorem dL_law_1910 : decode cL_law 1910 = .ok (.invokevirtual 359, 3) := de_182 (lb_119 (j := 6) (b := 182) rfl) (lb_119 (j := 7) (b := 1) rfl) (lb_119 (j := 8) (b := 103) rfl) rfl
theorem dL_law_1913 : decode cL_law 1913 = .ok (.istore 7, 2) := de_54 (lb_119 (j := 9) (b := 54) rfl) (lb_119 (j := 10) (b := 7) rfl) rfl
theorem dL_law_1915 : decode cL_law 1915 = .ok (.goto 524, 3) := de_167 (lb_119 (j := 11) (b := 167) rfl) (lb_119 (j := 12) (b := 2) rfl) (lb_119 (j := 13) (b := 12) rfl) (by decide +kernel)
theorem dL_law_1918 : decode cL_law 1918 = .ok (.aload_n 1, 1) := de_43 (lb_119 (j := 14) (b := 43) rfl)
theorem dL_law_1919 : decode cL_law 1919 = .ok (.aload_n 0, 1) := de_42 (lb_119 (j := 15) (b := 42) rfl)
theorem dL_law_1920 : decode cL_law 1920 = .ok (.iload 5, 2) := de_21 (lb_120 (j := 0) (b := 21) rfl) (lb_120 (j := 1) (b := 5) rfl) rfl
theorem dL_law_1922 : decode cL_law 1922 = .ok (.iconst 1, 1) := de_4 (lb_120 (j := 2) (b := 4) rfl)
theorem dL_law_1923 : decode cL_law 1923 = .ok (.iadd, 1) := de_96 (lb_120 (j := 3) (b := 96) rfl)
theorem dL_law_1924 : decode cL_law 1924 = .ok (.iaload, 1) := de_46 (lb_120 (j := 4) (b := 46) rfl)
theorem dL_law_1925 : decode cL_law 1925 = .ok (.aload_n 0, 1) := de_42 (lb_120 (j := 5) (b := 42) rfl)
theorem dL_law_1926 : decode cL_law 1926 = .ok (.iload 5, 2) := de_21 (lb_120 (j := 6) (b := 21) rfl) (lb_120 (j := 7) (b := 5) rfl) rfl
theorem dL_law_1928 : decode cL_law 1928 = .ok (.iconst 2, 1) := de_5 (lb_120 (j := 8) (b := 5) rfl)
theorem dL_law_1929 : decode cL_law 1929 = .ok (.iadd, 1) := de_96 (lb_120 (j := 9) (b := 96) rfl)
theorem dL_law_1930 : decode cL_law 1930 = .ok (.iaload, 1) := de_46 (lb_120 (j := 10) (b := 46) rfl)
theorem dL_law_1931 : decode cL_law 1931 = .ok (.aload_n 0, 1) := de_42 (lb_120 (j := 11) (b := 42) rfl)
theorem dL_law_1932 : decode cL_law 1932 = .ok (.iload 5, 2) := de_21 (lb_120 (j := 12) (b := 21) rfl) (lb_120 (j := 13) (b := 5) rfl) rfl
theorem dL_law_1934 : decode cL_law 1934 = .ok (.iconst 3, 1) := de_6 (lb_120 (j := 14) (b := 6) rfl)
theorem dL_law_1935 : decode cL_law 1935 = .ok (.iadd, 1) := de_96 (lb_120 (j := 15) (b := 96) rfl)
theorem dL_law_1936 : decode cL_law 1936 = .ok (.iaload, 1) := de_46 (lb_121 (j := 0) (b := 46) rfl)
theorem dL_law_1937 : decode cL_law 1937 = .ok (.aload_n 3, 1) := de_45 (lb_121 (j := 1) (b := 45) rfl)
theorem dL_law_1938 : decode cL_law 1938 = .ok (.invokestatic 360, 3) := de_184 (lb_121 (j := 2) (b := 184) rfl) (lb_121 (j := 3) (b := 1) rfl) (lb_121 (j := 4) (b := 104) rfl) rfl
theorem dL_law_1941 : decode cL_law 1941 = .ok (.istore 6, 2) := de_54 (lb_121 (j := 5) (b := 54) rfl) (lb_121 (j := 6) (b := 6) rfl) rfl
theorem dL_law_1943 : decode cL_law 1943 = .ok (.aload_n 2, 1) := de_44 (lb_121 (j := 7) (b := 44) rfl)
theorem dL_law_1944 : decode cL_law 1944 = .ok (.aload_n 0, 1) := de_42 (lb_121 (j := 8) (b := 42) rfl)
theorem dL_law_1945 : decode cL_law 1945 = .ok (.iload 5, 2) := de_21 (lb_121 (j := 9) (b := 21) rfl) (lb_121 (j := 10) (b := 5) rfl) rfl
theorem dL_law_1947 : decode cL_law 1947 = .ok (.iconst 1, 1) := de_4 (lb_121 (j := 11) (b := 4) rfl)
theorem dL_law_1948 : decode cL_law 1948 = .ok (.iadd, 1) := de_96 (lb_121 (j := 12) (b := 96) rfl)
theorem dL_law_1949 : decode cL_law 1949 = .ok (.iaload, 1) := de_46 (lb_121 (j := 13) (b := 46) rfl)
theorem dL_law_1950 : decode cL_law 1950 = .ok (.aload_n 0, 1) := de_42 (lb_121 (j := 14) (b := 42) rfl)
theorem dL_law_1951 : decode cL_law 1951 = .ok (.iload 5, 2) := de_21 (lb_121 (j := 15) (b := 21) rfl) (lb_122 (j := 0) (b := 5) rfl) rfl
theorem dL_law_1953 : decode cL_law 1953 = .ok (.iconst 2, 1) := de_5 (lb_122 (j := 1) (b := 5) rfl)
theorem dL_law_1954 : decode cL_law 1954 = .ok (.iadd, 1) := de_96 (lb_122 (j := 2) (b := 96) rfl)
theorem dL_law_1955 : decode cL_law 1955 = .ok (.iaload, 1) := de_46 (lb_122 (j := 3) (b := 46) rfl)
theorem dL_law_1956 : decode cL_law 1956 = .ok (.aload_n 0, 1) := de_42 (lb_122 (j := 4) (b := 42) rfl)
theorem dL_law_1957 : decode cL_law 1957 = .ok (.iload 5, 2) := de_21 (lb_122 (j := 5) (b := 21) rfl) (lb_122 (j := 6) (b := 5) rfl) rfl
theorem dL_law_1959 : decode cL_law 1959 = .ok (.iconst 3, 1) := de_6 (lb_122 (j := 7) (b := 6) rfl)
theorem dL_law_1960 : decode cL_law 1960 = .ok (.iadd, 1) := de_96 (lb_122 (j := 8) (b := 96) rfl)
theorem dL_law_1961 : decode cL_law 1961 = .ok (.iaload, 1) := de_46 (lb_122 (j := 9) (b := 46) rfl)
theorem dL_law_1962 : decode cL_law 1962 = .ok (.invokevirtual 362, 3) := de_182 (lb_122 (j := 10) (b := 182) rfl) (lb_122 (j := 11) (b := 1) rfl) (lb_122 (j := 12) (b := 106) rfl) rfl
theorem dL_law_1965 : decode cL_law 1965 = .ok (.lstore 7, 2) := de_55 (lb_122 (j := 13) (b := 55) rfl) (lb_122 (j := 14) (b := 7) rfl) rfl
theorem dL_law_1967 : decode cL_law 1967 = .ok (.goto 472, 3) := de_167 (lb_122 (j := 15) (b := 167) rfl) (lb_123 (j := 0) (b := 1) rfl) (lb_123 (j := 1) (b := 216) rfl) (by decide +kernel)
theorem dL_law_1970 : decode cL_law 1970 = .ok (.aload_n 1, 1) := de_43 (lb_123 (j := 2) (b := 43) rfl)
theorem dL_law_1971 : decode cL_law 1971 = .ok (.aload_n 0, 1) := de_42 (lb_123 (j := 3) (b := 42) rfl)
theorem dL_law_1972 : decode cL_law 1972 = .ok (.iload 5, 2) := de_21 (lb_123 (j := 4) (b := 21) rfl) (lb_123 (j := 5) (b := 5) rfl) rfl
theorem dL_law_1974 : decode cL_law 1974 = .ok (.iconst 1, 1) := de_4 (lb_123 (j := 6) (b := 4) rfl)
theorem dL_law_1975 : decode cL_law 1975 = .ok (.iadd, 1) := de_96 (lb_123 (j := 7) (b := 96) rfl)
theorem dL_law_1976 : decode cL_law 1976 = .ok (.iaload, 1) := de_46 (lb_123 (j := 8) (b := 46) rfl)
theorem dL_law_1977 : decode cL_law 1977 = .ok (.aload_n 3, 1) := de_45 (lb_123 (j := 9) (b := 45) rfl)
theorem dL_law_1978 : decode cL_law 1978 = .ok (.invokestatic 363, 3) := de_184 (lb_123 (j := 10) (b := 184) rfl) (lb_123 (j := 11) (b := 1) rfl) (lb_123 (j := 12) (b := 107) rfl) rfl
theorem dL_law_1981 : decode cL_law 1981 = .ok (.istore 6, 2) := de_54 (lb_123 (j := 13) (b := 54) rfl) (lb_123 (j := 14) (b := 6) rfl) rfl
theorem dL_law_1983 : decode cL_law 1983 = .ok (.aload_n 2, 1) := de_44 (lb_123 (j := 15) (b := 44) rfl)
theorem dL_law_1984 : decode cL_law 1984 = .ok (.aload_n 0, 1) := de_42 (lb_124 (j := 0) (b := 42) rfl)
theorem dL_law_1985 : decode cL_law 1985 = .ok (.iload 5, 2) := de_21 (lb_124 (j := 1) (b := 21) rfl) (lb_124 (j := 2) (b := 5) rfl) rfl
theorem dL_law_1987 : decode cL_law 1987 = .ok (.iconst 1, 1) := de_4 (lb_124 (j := 3) (b := 4) rfl)
theorem dL_law_1988 : decode cL_law 1988 = .ok (.iadd, 1) := de_96 (lb_124 (j := 4) (b := 96) rfl)
theorem dL_law_1989 : decode cL_law 1989 = .ok (.iaload, 1) := de_46 (lb_124 (j := 5) (b := 46) rfl)
theorem dL_law_1990 : decode cL_law 1990 = .ok (.invokevirtual 365, 3) := de_182 (lb_124 (j := 6) (b := 182) rfl) (lb_124 (j := 7) (b := 1) rfl) (lb_124 (j := 8) (b := 109) rfl) rfl
theorem dL_law_1993 : decode cL_law 1993 = .ok (.istore 7, 2) := de_54 (lb_124 (j := 9) (b := 54) rfl) (lb_124 (j := 10) (b := 7) rfl) rfl
theorem dL_law_1995 : decode cL_law 1995 = .ok (.goto 444, 3) := de_167 (lb_124 (j := 11) (b := 167) rfl) (lb_124 (j := 12) (b := 1) rfl) (lb_124 (j := 13) (b := 188) rfl) (by decide +kernel)
theorem dL_law_1998 : decode cL_law 1998 = .ok (.aload_n 1, 1) := de_43 (lb_124 (j := 14) (b := 43) rfl)
theorem dL_law_1999 : decode cL_law 1999 = .ok (.aload_n 0, 1) := de_42 (lb_124 (j := 15) (b := 42) rfl)
theorem dL_law_2000 : decode cL_law 2000 = .ok (.iload 5, 2) := de_21 (lb_125 (j := 0) (b := 21) rfl) (lb_125 (j := 1) (b := 5) rfl) rfl
theorem dL_law_2002 : decode cL_law 2002 = .ok (.iconst 1, 1) := de_4 (lb_125 (j := 2) (b := 4) rfl)
theorem dL_law_2003 : decode cL_law 2003 = .ok (.iadd, 1) := de_96 (lb_125 (j := 3) (b := 96) rfl)
theorem dL_law_2004 : decode cL_law 2004 = .ok (.iaload, 1) := de_46 (lb_125 (j := 4) (b := 46) rfl)
theorem dL_law_2005 : decode cL_law 2005 = .ok (.aload_n 3, 1) := de_45 (lb_125 (j := 5) (b := 45) rfl)
theorem dL_law_2006 : decode cL_law 2006 = .ok (.invokestatic 366, 3) := de_184 (lb_125 (j := 6) (b := 184) rfl) (lb_125 (j := 7) (b := 1) rfl) (lb_125 (j := 8) (b := 110) rfl) rfl
theorem dL_law_2009 : decode cL_law 2009 = .ok (.istore 6, 2) := de_54 (lb_125 (j := 9) (b := 54) rfl) (lb_125 (j := 10) (b := 6) rfl) rfl
theorem dL_law_2011 : decode cL_law 2011 = .ok (.aload_n 2, 1) := de_44 (lb_125 (j := 11) (b := 44) rfl)
theorem dL_law_2012 : decode cL_law 2012 = .ok (.aload_n 0, 1) := de_42 (lb_125 (j := 12) (b := 42) rfl)
theorem dL_law_2013 : decode cL_law 2013 = .ok (.iload 5, 2) := de_21 (lb_125 (j := 13) (b := 21) rfl) (lb_125 (j := 14) (b := 5) rfl) rfl
theorem dL_law_2015 : decode cL_law 2015 = .ok (.iconst 1, 1) := de_4 (lb_125 (j := 15) (b := 4) rfl)
theorem dL_law_2016 : decode cL_law 2016 = .ok (.iadd, 1) := de_96 (lb_126 (j := 0) (b := 96) rfl)
theorem dL_law_2017 : decode cL_law 2017 = .ok (.iaload, 1) := de_46 (lb_126 (j := 1) (b := 46) rfl)
theorem dL_law_2018 : decode cL_law 2018 = .ok (.invokevirtual 368, 3) := de_182 (lb_126 (j := 2) (b := 182) rfl) (lb_126 (j := 3) (b := 1) rfl) (lb_126 (j := 4) (b := 112) rfl) rfl
theorem dL_law_2021 : decode cL_law 2021 = .ok (.istore 7, 2) := de_54 (lb_126 (j := 5) (b := 54) rfl) (lb_126 (j := 6) (b := 7) rfl) rfl
theorem dL_law_2023 : decode cL_law 2023 = .ok (.goto 416, 3) := de_167 (lb_126 (j := 7) (b := 167) rfl) (lb_126 (j := 8) (b := 1) rfl) (lb_126 (j := 9) (b := 160) rfl) (by decide +kernel)
theorem dL_law_2026 : decode cL_law 2026 = .ok (.aload_n 1, 1) := de_43 (lb_126 (j := 10) (b := 43) rfl)
theorem dL_law_2027 : decode cL_law 2027 = .ok (.aload_n 0, 1) := de_42 (lb_126 (j := 11) (b := 42) rfl)
theorem dL_law_2028 : decode cL_law 2028 = .ok (.iload 5, 2) := de_21 (lb_126 (j := 12) (b := 21) rfl) (lb_126 (j := 13) (b := 5) rfl) rfl
theorem dL_law_2030 : decode cL_law 2030 = .ok (.iconst 1, 1) := de_4 (lb_126 (j := 14) (b := 4) rfl)
theorem dL_law_2031 : decode cL_law 2031 = .ok (.iadd, 1) := de_96 (lb_126 (j := 15) (b := 96) rfl)
theorem dL_law_2032 : decode cL_law 2032 = .ok (.iaload, 1) := de_46 (lb_127 (j := 0) (b := 46) rfl)
theorem dL_law_2033 : decode cL_law 2033 = .ok (.aload_n 0, 1) := de_42 (lb_127 (j := 1) (b := 42) rfl)
theorem dL_law_2034 : decode cL_law 2034 = .ok (.iload 5, 2) := de_21 (lb_127 (j := 2) (b := 21) rfl) (lb_127 (j := 3) (b := 5) rfl) rfl
theorem dL_law_2036 : decode cL_law 2036 = .ok (.iconst 2, 1) := de_5 (lb_127 (j := 4) (b := 5) rfl)
theorem dL_law_2037 : decode cL_law 2037 = .ok (.iadd, 1) := de_96 (lb_127 (j := 5) (b := 96) rfl)
theorem dL_law_2038 : decode cL_law 2038 = .ok (.iaload, 1) := de_46 (lb_127 (j := 6) (b := 46) rfl)
theorem dL_law_2039 : decode cL_law 2039 = .ok (.ifCond .eq 7, 3) := de_153 (lb_127 (j := 7) (b := 153) rfl) (lb_127 (j := 8) (b := 0) rfl) (lb_127 (j := 9) (b := 7) rfl) (by decide +kernel)
theorem dL_law_2042 : decode cL_law 2042 = .ok (.iconst 1, 1) := de_4 (lb_127 (j := 10) (b := 4) rfl)
theorem dL_law_2043 : decode cL_law 2043 = .ok (.goto 4, 3) := de_167 (lb_127 (j := 11) (b := 167) rfl) (lb_127 (j := 12) (b := 0) rfl) (lb_127 (j := 13) (b := 4) rfl) (by decide +kernel)
theorem dL_law_2046 : decode cL_law 2046 = .ok (.iconst 0, 1) := de_3 (lb_127 (j := 14) (b := 3) rfl)
theorem dL_law_2047 : decode cL_law 2047 = .ok (.aload_n 3, 1) := de_45 (lb_127 (j := 15) (b := 45) rfl)
theorem dL_law_2048 : decode cL_law 2048 = .ok (.invokestatic 369, 3) := de_184 (lb_128 (j := 0) (b := 184) rfl) (lb_128 (j := 1) (b := 1) rfl) (lb_128 (j := 2) (b := 113) rfl) rfl
theorem dL_law_2051 : decode cL_law 2051 = .ok (.istore 6, 2) := de_54 (lb_128 (j := 3) (b := 54) rfl) (lb_128 (j := 4) (b := 6) rfl) rfl
theorem dL_law_2053 : decode cL_law 2053 = .ok (.aload_n 2, 1) := de_44 (lb_128 (j := 5) (b := 44) rfl)
theorem dL_law_2054 : decode cL_law 2054 = .ok (.aload_n 0, 1) := de_42 (lb_128 (j := 6) (b := 42) rfl)
theorem dL_law_2055 : decode cL_law 2055 = .ok (.iload 5, 2) := de_21 (lb_128 (j := 7) (b := 21) rfl) (lb_128 (j := 8) (b := 5) rfl) rfl
theorem dL_law_2057 : decode cL_law 2057 = .ok (.iconst 1, 1) := de_4 (lb_128 (j := 9) (b := 4) rfl)
theorem dL_law_2058 : decode cL_law 2058 = .ok (.iadd, 1) := de_96 (lb_128 (j := 10) (b := 96) rfl)
theorem dL_law_2059 : decode cL_law 2059 = .ok (.iaload, 1) := de_46 (lb_128 (j := 11) (b := 46) rfl)
theorem dL_law_2060 : decode cL_law 2060 = .ok (.aload_n 0, 1) := de_42 (lb_128 (j := 12) (b := 42) rfl)
theorem dL_law_2061 : decode cL_law 2061 = .ok (.iload 5, 2) := de_21 (lb_128 (j := 13) (b := 21) rfl) (lb_128 (j := 14) (b := 5) rfl) rfl
theorem dL_law_2063 : decode cL_law 2063 = .ok (.iconst 2, 1) := de_5 (lb_128 (j := 15) (b := 5) rfl)
theorem dL_law_2064 : decode cL_law 2064 = .ok (.iadd, 1) := de_96 (lb_129 (j := 0) (b := 96) rfl)
theorem dL_law_2065 : decode cL_law 2065 = .ok (.iaload, 1) := de_46 (lb_129 (j := 1) (b := 46) rfl)
theorem dL_law_2066 : decode cL_law 2066 = .ok (.ifCond .eq 7, 3) := de_153 (lb_129 (j := 2) (b := 153) rfl) (lb_129 (j := 3) (b := 0) rfl) (lb_129 (j := 4) (b := 7) rfl) (by decide +kernel)
theorem dL_law_2069 : decode cL_law 2069 = .ok (.iconst 1, 1) := de_4 (lb_129 (j := 5) (b := 4) rfl)
theorem dL_law_2070 : decode cL_law 2070 = .ok (.goto 4, 3) := de_167 (lb_129 (j := 6) (b := 167) rfl) (lb_129 (j := 7) (b := 0) rfl) (lb_129 (j := 8) (b := 4) rfl) (by decide +kernel)
theorem dL_law_2073 : decode cL_law 2073 = .ok (.iconst 0, 1) := de_3 (lb_129 (j := 9) (b := 3) rfl)
theorem dL_law_2074 : decode cL_law 2074 = .ok (.invokevirtual 372, 3) := de_182 (lb_129 (j := 10) (b := 182) rfl) (lb_129 (j := 11) (b := 1) rfl) (lb_129 (j := 12) (b := 116) rfl) rfl
theorem dL_law_2077 : decode cL_law 2077 = .ok (.istore 7, 2) := de_54 (lb_129 (j := 13) (b := 54) rfl) (lb_129 (j := 14) (b := 7) rfl) rfl
theorem dL_law_2079 : decode cL_law 2079 = .ok (.goto 360, 3) := de_167 (lb_129 (j := 15) (b := 167) rfl) (lb_130 (j := 0) (b := 1) rfl) (lb_130 (j := 1) (b := 104) rfl) (by decide +kernel)
theorem dL_law_2082 : decode cL_law 2082 = .ok (.aload_n 1, 1) := de_43 (lb_130 (j := 2) (b := 43) rfl)
theorem dL_law_2083 : decode cL_law 2083 = .ok (.aload_n 0, 1) := de_42 (lb_130 (j := 3) (b := 42) rfl)
theorem dL_law_2084 : decode cL_law 2084 = .ok (.iload 5, 2) := de_21 (lb_130 (j := 4) (b := 21) rfl) (lb_130 (j := 5) (b := 5) rfl) rfl
theorem dL_law_2086 : decode cL_law 2086 = .ok (.iconst 1, 1) := de_4 (lb_130 (j := 6) (b := 4) rfl)
theorem dL_law_2087 : decode cL_law 2087 = .ok (.iadd, 1) := de_96 (lb_130 (j := 7) (b := 96) rfl)
theorem dL_law_2088 : decode cL_law 2088 = .ok (.iaload, 1) := de_46 (lb_130 (j := 8) (b := 46) rfl)
theorem dL_law_2089 : decode cL_law 2089 = .ok (.aload_n 0, 1) := de_42 (lb_130 (j := 9) (b := 42) rfl)
theorem dL_law_2090 : decode cL_law 2090 = .ok (.iload 5, 2) := de_21 (lb_130 (j := 10) (b := 21) rfl) (lb_130 (j := 11) (b := 5) rfl) rfl
theorem dL_law_2092 : decode cL_law 2092 = .ok (.iconst 2, 1) := de_5 (lb_130 (j := 12) (b := 5) rfl)
theorem dL_law_2093 : decode cL_law 2093 = .ok (.iadd, 1) := de_96 (lb_130 (j := 13) (b := 96) rfl)
theorem dL_law_2094 : decode cL_law 2094 = .ok (.iaload, 1) := de_46 (lb_130 (j := 14) (b := 46) rfl)
theorem dL_law_2095 : decode cL_law 2095 = .ok (.aload_n 3, 1) := de_45 (lb_130 (j := 15) (b := 45) rfl)
theorem dL_law_2096 : decode cL_law 2096 = .ok (.invokestatic 373, 3) := de_184 (lb_131 (j := 0) (b := 184) rfl) (lb_131 (j := 1) (b := 1) rfl) (lb_131 (j := 2) (b := 117) rfl) rfl
theorem dL_law_2099 : decode cL_law 2099 = .ok (.istore 6, 2) := de_54 (lb_131 (j := 3) (b := 54) rfl) (lb_131 (j := 4) (b := 6) rfl) rfl
theorem dL_law_2101 : decode cL_law 2101 = .ok (.aload_n 2, 1) := de_44 (lb_131 (j := 5) (b := 44) rfl)
theorem dL_law_2102 : decode cL_law 2102 = .ok (.aload_n 0, 1) := de_42 (lb_131 (j := 6) (b := 42) rfl)
theorem dL_law_2103 : decode cL_law 2103 = .ok (.iload 5, 2) := de_21 (lb_131 (j := 7) (b := 21) rfl) (lb_131 (j := 8) (b := 5) rfl) rfl
theorem dL_law_2105 : decode cL_law 2105 = .ok (.iconst 1, 1) := de_4 (lb_131 (j := 9) (b := 4) rfl)
theorem dL_law_2106 : decode cL_law 2106 = .ok (.iadd, 1) := de_96 (lb_131 (j := 10) (b := 96) rfl)
theorem dL_law_2107 : decode cL_law 2107 = .ok (.iaload, 1) := de_46 (lb_131 (j := 11) (b := 46) rfl)
theorem dL_law_2108 : decode cL_law 2108 = .ok (.aload_n 0, 1) := de_42 (lb_131 (j := 12) (b := 42) rfl)
theorem dL_law_2109 : decode cL_law 2109 = .ok (.iload 5, 2) := de_21 (lb_131 (j := 13) (b := 21) rfl) (lb_131 (j := 14) (b := 5) rfl) rfl
theorem dL_law_2111 : decode cL_law 2111 = .ok (.iconst 2, 1) := de_5 (lb_131 (j := 15) (b := 5) rfl)
theorem dL_law_2112 : decode cL_law 2112 = .ok (.iadd, 1) := de_96 (lb_132 (j := 0) (b := 96) rfl)
theorem dL_law_2113 : decode cL_law 2113 = .ok (.iaload, 1) := de_46 (lb_132 (j := 1) (b := 46) rfl)
theorem dL_law_2114 : decode cL_law 2114 = .ok (.invokevirtual 375, 3) := de_182 (lb_132 (j := 2) (b := 182) rfl) (lb_132 (j := 3) (b := 1) rfl) (lb_132 (j := 4) (b := 119) rfl) rfl
theorem dL_law_2117 : decode cL_law 2117 = .ok (.istore 7, 2) := de_54 (lb_132 (j := 5) (b := 54) rfl) (lb_132 (j := 6) (b := 7) rfl) rfl
theorem dL_law_2119 : decode cL_law 2119 = .ok (.goto 320, 3) := de_167 (lb_132 (j := 7) (b := 167) rfl) (lb_132 (j := 8) (b := 1) rfl) (lb_132 (j := 9) (b := 64) rfl) (by decide +kernel)
theorem dL_law_2122 : decode cL_law 2122 = .ok (.aload_n 1, 1) := de_43 (lb_132 (j := 10) (b := 43) rfl)
theorem dL_law_2123 : decode cL_law 2123 = .ok (.aload_n 0, 1) := de_42 (lb_132 (j := 11) (b := 42) rfl)
theorem dL_law_2124 : decode cL_law 2124 = .ok (.iload 5, 2) := de_21 (lb_132 (j := 12) (b := 21) rfl) (lb_132 (j := 13) (b := 5) rfl) rfl
theorem dL_law_2126 : decode cL_law 2126 = .ok (.iconst 1, 1) := de_4 (lb_132 (j := 14) (b := 4) rfl)
theorem dL_law_2127 : decode cL_law 2127 = .ok (.iadd, 1) := de_96 (lb_132 (j := 15) (b := 96) rfl)
theorem dL_law_2128 : decode cL_law 2128 = .ok (.iaload, 1) := de_46 (lb_133 (j := 0) (b := 46) rfl)
theorem dL_law_2129 : decode cL_law 2129 = .ok (.aload_n 0, 1) := de_42 (lb_133 (j := 1) (b := 42) rfl)
theorem dL_law_2130 : decode cL_law 2130 = .ok (.iload 5, 2) := de_21 (lb_133 (j := 2) (b := 21) rfl) (lb_133 (j := 3) (b := 5) rfl) rfl
theorem dL_law_2132 : decode cL_law 2132 = .ok (.iconst 2, 1) := de_5 (lb_133 (j := 4) (b := 5) rfl)
theorem dL_law_2133 : decode cL_law 2133 = .ok (.iadd, 1) := de_96 (lb_133 (j := 5) (b := 96) rfl)
theorem dL_law_2134 : decode cL_law 2134 = .ok (.iaload, 1) := de_46 (lb_133 (j := 6) (b := 46) rfl)
theorem dL_law_2135 : decode cL_law 2135 = .ok (.ifCond .eq 7, 3) := de_153 (lb_133 (j := 7) (b := 153) rfl) (lb_133 (j := 8) (b := 0) rfl) (lb_133 (j := 9) (b := 7) rfl) (by decide +kernel)
theorem dL_law_2138 : decode cL_law 2138 = .ok (.iconst 1, 1) := de_4 (lb_133 (j := 10) (b := 4) rfl)
theorem dL_law_2139 : decode cL_law 2139 = .ok (.goto 4, 3) := de_167 (lb_133 (j := 11) (b := 167) rfl) (lb_133 (j := 12) (b := 0) rfl) (lb_133 (j := 13) (b := 4) rfl) (by decide +kernel)
theorem dL_law_2142 : decode cL_law 2142 = .ok (.iconst 0, 1) := de_3 (lb_133 (j := 14) (b := 3) rfl)
theorem dL_law_2143 : decode cL_law 2143 = .ok (.aload_n 3, 1) := de_45 (lb_133 (j := 15) (b := 45) rfl)
theorem dL_law_2144 : decode cL_law 2144 = .ok (.invokestatic 376, 3) := de_184 (lb_134 (j := 0) (b := 184) rfl) (lb_134 (j := 1) (b := 1) rfl) (lb_134 (j := 2) (b := 120) rfl) rfl
theorem dL_law_2147 : decode cL_law 2147 = .ok (.istore 6, 2) := de_54 (lb_134 (j := 3) (b := 54) rfl) (lb_134 (j := 4) (b := 6) rfl) rfl
theorem dL_law_2149 : decode cL_law 2149 = .ok (.aload_n 2, 1) := de_44 (lb_134 (j := 5) (b := 44) rfl)
theorem dL_law_2150 : decode cL_law 2150 = .ok (.aload_n 0, 1) := de_42 (lb_134 (j := 6) (b := 42) rfl)
theorem dL_law_2151 : decode cL_law 2151 = .ok (.iload 5, 2) := de_21 (lb_134 (j := 7) (b := 21) rfl) (lb_134 (j := 8) (b := 5) rfl) rfl
theorem dL_law_2153 : decode cL_law 2153 = .ok (.iconst 1, 1) := de_4 (lb_134 (j := 9) (b := 4) rfl)
theorem dL_law_2154 : decode cL_law 2154 = .ok (.iadd, 1) := de_96 (lb_134 (j := 10) (b := 96) rfl)
theorem dL_law_2155 : decode cL_law 2155 = .ok (.iaload, 1) := de_46 (lb_134 (j := 11) (b := 46) rfl)
theorem dL_law_2156 : decode cL_law 2156 = .ok (.aload_n 0, 1) := de_42 (lb_134 (j := 12) (b := 42) rfl)
theorem dL_law_2157 : decode cL_law 2157 = .ok (.iload 5, 2) := de_21 (lb_134 (j := 13) (b := 21) rfl) (lb_134 (j := 14) (b := 5) rfl) rfl
theorem dL_law_2159 : decode cL_law 2159 = .ok (.iconst 2, 1) := de_5 (lb_134 (j := 15) (b := 5) rfl)
theorem dL_law_2160 : decode cL_law 2160 = .ok (.iadd, 1) := de_96 (lb_135 (j := 0) (b := 96) rfl)
theorem dL_law_2161 : decode cL_law 2161 = .ok (.iaload, 1) := de_46 (lb_135 (j := 1) (b := 46) rfl)
theorem dL_law_2162 : decode cL_law 2162 = .ok (.ifCond .eq 7, 3) := de_153 (lb_135 (j := 2) (b := 153) rfl) (lb_135 (j := 3) (b := 0) rfl) (lb_135 (j := 4) (b := 7) rfl) (by decide +kernel)
theorem dL_law_2165 : decode cL_law 2165 = .ok (.iconst 1, 1) := de_4 (lb_135 (j := 5) (b := 4) rfl)
theorem dL_law_2166 : decode cL_law 2166 = .ok (.goto 4, 3) := de_167 (lb_135 (j := 6) (b := 167) rfl) (lb_135 (j := 7) (b := 0) rfl) (lb_135 (j := 8) (b := 4) rfl) (by decide +kernel)
theorem dL_law_2169 : decode cL_law 2169 = .ok (.iconst 0, 1) := de_3 (lb_135 (j := 9) (b := 3) rfl)
theorem dL_law_2170 : decode cL_law 2170 = .ok (.invokevirtual 378, 3) := de_182 (lb_135 (j := 10) (b := 182) rfl) (lb_135 (j := 11) (b := 1) rfl) (lb_135 (j := 12) (b := 122) rfl) rfl
theorem dL_law_2173 : decode cL_law 2173 = .ok (.istore 7, 2) := de_54 (lb_135 (j := 13) (b := 54) rfl) (lb_135 (j := 14) (b := 7) rfl) rfl
theorem dL_law_2175 : decode cL_law 2175 = .ok (.goto 264, 3) := de_167 (lb_135 (j := 15) (b := 167) rfl) (lb_136 (j := 0) (b := 1) rfl) (lb_136 (j := 1) (b := 8) rfl) (by decide +kernel)
set_option maxHeartbeats 4000000 in
set_option maxRecDepth 100000 in
theorem y_a48 {p : Program} {e : Env} {s : State} {m : MethodId} {below : List Frame} {meth : Method} {c : Code} (l : Launch) (hst : l.stackTraces = false) {b L : Nat} {xs : Nat → Int32} (hx : p.tables.exec = Jvm.exec) (hb : c.code = code) (hml : c.maxLocals = 9) (hown : s.vm.findClass RL = some m.cls) (hts : ∀ w ∈ lw_tbl, w.before #[Value.ref b] s = true) (hX0 : va_X b L xs s s.heap) (hbl : b < s.heap.size) (hX : xT (fun q => s.heap.size ≤ q) s) (hN : nC s) (hTS : sAll s.heap.size s) {D : va_G} {cI cJ cZ cMic cSrc cSt cAI cAJ cD : ClassId} (hK : va_K D vwCl (CT cI cJ cZ cMic cSrc cSt cAI cAJ ++ [(cD, .double)]) s) {Q : State → Prop} {i j : Nat} (hi : i + 6 ≤ L) (hL : L ≤ 3072) (hj : j < 512) {aj ae : Nat} {ad am : Nat → Nat} {T : AT} {Sm : MS} {f : Nat → Int64} {g : Nat → UInt64} {ls : Array Slot} {H : Heap} {locs : List Loc} (hV : IV aR0 1586 aK1 aK2 T) (hrc : RC T) (hJ : JJ Sm) (G : gL cI cJ cZ cMic cSrc cSt cAI cAJ D ad (fun q => s.heap.size ≤ q) s.heap H locs T (oJ aj cJ f :: oD ae cD g :: MW cI cJ cZ am Sm)) (hl : lv_has ls 9 [(5, .int (nI i)), (4, .ref ae), (3, .ref aj), (2, .ref (am 0)), (1, .ref (ad 0)), (0, .ref b)]) (kk : ∀ {k1 : Nat} {r1 : Int32} {T1 : AT} {r2 : Int32} {S1 : MS} (ad2 : Nat → Nat) (f1 : Nat → Int64) (g1 : Nat → UInt64) (H1 : Heap) (locs1 : List Loc) (ls1 : Array Slot), g_X11_mapByte T 0 (xs (i + 1)) = some (k1, r1, T1) → fr_mapByte Sm (xs (i + 1)) = some (r2, S1) → ad2 0 = ad 0 → IV aR0 1586 aK1 aK2 T1 → RC T1 → JJ S1 → gL cI cJ cZ cMic cSrc cSt cAI cAJ D ad2 (fun q => s.heap.size ≤ q) s.heap H1 locs1 T1 (oJ aj cJ f1 :: oD ae cD g1 :: MW cI cJ cZ am S1) → lv_has ls1 9 [(5, .int (nI i)), (4, .ref ae), (3, .ref aj), (2, .ref (am 0)), (1, .ref (ad2 0)), (0, .ref b)] → W p l e room_1 s m #[Value.ref b] below meth c H1 locs1 (19 + T1.1 + (j + 1)) (38467 + sg T1 + 6 * (j + 1)) Q (F0 m 2439 ls1 [])) : W p l e room_1 s m #[Value.ref b] below meth c H locs (19 + T.1 + j) (38467 + sg T + 6 * j) Q (F0 m 1850 ls []) := by
  have E : cE p c cL_law s m #[Value.ref b] lw_tbl D RL (CT cI cJ cZ cMic cSrc cSt cAI cAJ ++ [(cD, .double)]) := ⟨hx, hb, hts, hown, hK⟩
  have hA : ∀ q : Nat, s.heap.size ≤ q → s.heap.size ≤ q := fun _ h => h
  have h0T : 0 < T.1 := Nat.lt_of_lt_of_le (by decide) hV.1.2.2
  have h0s : T.2.1 0 = (11, 0) := hV.2.1 0 ⟨by decide, by decide +kernel, by decide +kernel⟩
  refine lv_aload_n hx hb dL_law_1850 rfl (lv_at hl 4 rfl) ?_
  refine lv_aload_n hx hb dL_law_1851 rfl (lv_at hl 5 rfl) ?_
  refine lv_iload hx hb dL_law_1852 (lv_at hl 0 rfl) ?_
  refine lv_iconst (v := 1) hx hb dL_law_1854 (by decide) ?_
  refine lv_iadd hx hb dL_law_1855 ?_
  refine lv_to (y := nI (i + 1)) (nI_add i 1) ?_
  refine va_sld hx hb hX0 hbl (Nat.not_le.mpr hbl) G.2.2 (i := nI (i + 1)) (vp_in_nI (n := i + 1) (N := L) (by omega) (by omega)) dL_law_1856 ?_
  refine lv_to (y := xs (i + 1)) (congrArg xs (nI_clamp (by omega))) ?_
  refine lv_aload_n hx hb dL_law_1857 rfl (lv_at hl 2 rfl) ?_
  obtain ⟨⟨k1, r1, T1⟩, hg, hc⟩ := cs_X11_mapByte T 0 (xs (i + 1)) hV (by decide +kernel)
  have hV1 : IV aR0 1586 aK1 aK2 T1 := by rw [show T1 = T from hc.1]; exact hV
  have hg1 := (gl_sp (s_X11_mapByte hg))
  have hg2 := sg_le hg1
  have hg3 := hg1.1
  have hk := hV1.2.2.2.2.2.2
  have hrc1 := hg1.2.2 hrc
  have hr0 := a_room
  refine l_v (h0 := s.heap.size) (As := [.ref (ad 0), .int (xs (i + 1)), .ref aj]) (rest := []) E G hA hX hN (fun _ h => h) hTS hml (v_mapByte l hst D s.heap.size ad T 0 (xs (i + 1)) aj f hg hrc h0T h0s) (vx_cwSW 3 hts (glA (L := [Cond.methodLink RL 354 yL_mapByte, Cond.static yL_mapByte, Cond.initialized RL]) (gl_in [(7, 59), (7, 60), (1, 0)] (by decide +kernel) (by decide +kernel)) ⟨(t_of [Cond.codeWith yL_mapByte cL_mapByte 4 (some .int) [(0, 9, 12, 13)]] [(7, 61)] (by decide +kernel) _ List.mem_cons_self), List.all_eq_true.mp (by decide +kernel : [Cond.codeWith yL_mapByte cL_mapByte 4 (some .int) [(0, 9, 12, 13)]].all goodWord = true) _ List.mem_cons_self⟩) rfl rfl rfl (by decide +kernel) ⟨Nat.le_of_ble_eq_true rfl, Nat.le_of_ble_eq_true rfl⟩) rfl hl.1 rfl (lv_room (Nat.le_of_ble_eq_true rfl)) dL_law_1858 ⟨by show _ ≤ 601024; omega, by show _ ≤ 7293034; omega⟩ ?_
  intro ad2 H locs had G
  rw [← had 0 h0T] at hl
  refine lv_istore (lv' := [(6, .int (vck 0 1 0 k1)), (5, .int (nI i)), (4, .ref ae), (3, .ref aj), (2, .ref (am 0)), (1, .ref (ad2 0)), (0, .ref b)]) hx hb dL_law_1861 hl (by decide) rfl (fun ls hl => ?_)
  refine lv_aload_n hx hb dL_law_1863 rfl (lv_at hl 4 rfl) ?_
  refine lv_aload_n hx hb dL_law_1864 rfl (lv_at hl 6 rfl) ?_
  refine lv_iload hx hb dL_law_1865 (lv_at hl 1 rfl) ?_
  refine lv_iconst (v := 1) hx hb dL_law_1867 (by decide) ?_
  refine lv_iadd hx hb dL_law_1868 ?_
  refine lv_to (y := nI (i + 1)) (nI_add i 1) ?_
  refine va_sld hx hb hX0 hbl (Nat.not_le.mpr hbl) G.2.2 (i := nI (i + 1)) (vp_in_nI (n := i + 1) (N := L) (by omega) (by omega)) dL_law_1869 ?_
  refine lv_to (y := xs (i + 1)) (congrArg xs (nI_clamp (by omega))) ?_
  obtain ⟨⟨r2, S1⟩, hf, hj⟩ := sj_mapByte Sm (xs (i + 1)) hJ
  have hJ1 : JJ S1 := hj
  refine y_mi (As := [.int (xs (i + 1))]) (rest := []) E G hA hX.2.2.2.2 hml (tr_mapByte l D cI cJ cZ am Sm (xs (i + 1)) hf) (cwV 1 hts (glM (L := [Cond.methodLink RL 356 yX12_mapByte, Cond.instanceMethod yX12_mapByte, Cond.selects RX12 yX12_mapByte yX12_mapByte, Cond.initialized RX12]) (gl_in [(10, 129), (10, 130), (10, 131), (1, 14)] (by decide +kernel) (by decide +kernel)) ⟨(t_of [Cond.code yX12_mapByte cX12_mapByte 2 (some .int)] [(10, 132)] (by decide +kernel) _ List.mem_cons_self), List.all_eq_true.mp (by decide +kernel : [Cond.code yX12_mapByte cX12_mapByte 2 (some .int)].all goodWord = true) _ List.mem_cons_self⟩) rfl rfl rfl (by decide +kernel) ⟨Nat.le_of_ble_eq_true rfl, Nat.le_of_ble_eq_true rfl⟩) rfl hl.1 rfl (lv_room (Nat.le_of_ble_eq_true rfl)) dL_law_1870 ⟨by show _ ≤ 601024; omega, by show _ ≤ 7293034; omega⟩ (fun H locs G => ?_)
  refine lv_istore (lv' := [(7, .int r2), (6, .int (vck 0 1 0 k1)), (5, .int (nI i)), (4, .ref ae), (3, .ref aj), (2, .ref (am 0)), (1, .ref (ad2 0)), (0, .ref b)]) hx hb dL_law_1873 hl (by decide) rfl (fun ls hl => ?_)
  refine lv_goto (tgt := 2439) hx hb dL_law_1875 (by decide) ?_
  have hl := lv_sub hl [2, 3, 4, 5, 6, 7] rfl
  refine W.widen (k := 19 + T1.1 + (j + 1)) (n := 38467 + sg T1 + 6 * (j + 1)) (by omega) (by omega) ?_
  exact kk ad2 (vfJ k1 f r1.toInt64) g H locs ls hg hf (had 0 h0T) hV1 hrc1 hJ1 G hl
set_option maxHeartbeats 4000000 in
set_option maxRecDepth 100000 in
theorem y_a49 {p : Program} {e : Env} {s : State} {m : MethodId} {below : List Frame} {meth : Method} {c : Code} (l : Launch) (hst : l.stackTraces = false) {b L : Nat} {xs : Nat → Int32} (hx : p.tables.exec = Jvm.exec) (hb : c.code = code) (hml : c.maxLocals = 9) (hown : s.vm.findClass RL = some m.cls) (hts : ∀ w ∈ lw_tbl, w.before #[Value.ref b] s = true) (hX0 : va_X b L xs s s.heap) (hbl : b < s.heap.size) (hX : xT (fun q => s.heap.size ≤ q) s) (hN : nC s) (hTS : sAll s.heap.size s) {D : va_G} {cI cJ cZ cMic cSrc cSt cAI cAJ cD : ClassId} (hK : va_K D vwCl (CT cI cJ cZ cMic cSrc cSt cAI cAJ ++ [(cD, .double)]) s) {Q : State → Prop} {i j : Nat} (hi : i + 6 ≤ L) (hL : L ≤ 3072) (hj : j < 512) {aj ae : Nat} {ad am : Nat → Nat} {T : AT} {Sm : MS} {f : Nat → Int64} {g : Nat → UInt64} {ls : Array Slot} {H : Heap} {locs : List Loc} (hV : IV aR0 1586 aK1 aK2 T) (hrc : RC T) (hJ : JJ Sm) (G : gL cI cJ cZ cMic cSrc cSt cAI cAJ D ad (fun q => s.heap.size ≤ q) s.heap H locs T (oJ aj cJ f :: oD ae cD g :: MW cI cJ cZ am Sm)) (hl : lv_has ls 9 [(5, .int (nI i)), (4, .ref ae), (3, .ref aj), (2, .ref (am 0)), (1, .ref (ad 0)), (0, .ref b)]) (kk : ∀ {k1 : Nat} {r1 : Int32} {T1 : AT} {r2 : Int32} {S1 : MS} (ad2 : Nat → Nat) (f1 : Nat → Int64) (g1 : Nat → UInt64) (H1 : Heap) (locs1 : List Loc) (ls1 : Array Slot), g_X11_pointBest T 0 (xs (i + 1)) (xs (i + 2)) = some (k1, r1, T1) → fr_pointBest Sm (xs (i + 1)) (xs (i + 2)) = some (r2, S1) → ad2 0 = ad 0 → IV aR0 1586 aK1 aK2 T1 → RC T1 → JJ S1 → gL cI cJ cZ cMic cSrc cSt cAI cAJ D ad2 (fun q => s.heap.size ≤ q) s.heap H1 locs1 T1 (oJ aj cJ f1 :: oD ae cD g1 :: MW cI cJ cZ am S1) → lv_has ls1 9 [(5, .int (nI i)), (4, .ref ae), (3, .ref aj), (2, .ref (am 0)), (1, .ref (ad2 0)), (0, .ref b)] → W p l e room_1 s m #[Value.ref b] below meth c H1 locs1 (19 + T1.1 + (j + 1)) (38467 + sg T1 + 6 * (j + 1)) Q (F0 m 2439 ls1 [])) : W p l e room_1 s m #[Value.ref b] below meth c H locs (19 + T.1 + j) (38467 + sg T + 6 * j) Q (F0 m 1878 ls []) := by
  have E : cE p c cL_law s m #[Value.ref b] lw_tbl D RL (CT cI cJ cZ cMic cSrc cSt cAI cAJ ++ [(cD, .double)]) := ⟨hx, hb, hts, hown, hK⟩
  have hA : ∀ q : Nat, s.heap.size ≤ q → s.heap.size ≤ q := fun _ h => h
  have h0T : 0 < T.1 := Nat.lt_of_lt_of_le (by decide) hV.1.2.2
  have h0s : T.2.1 0 = (11, 0) := hV.2.1 0 ⟨by decide, by decide +kernel, by decide +kernel⟩
  refine lv_aload_n hx hb dL_law_1878 rfl (lv_at hl 4 rfl) ?_
  refine lv_aload_n hx hb dL_law_1879 rfl (lv_at hl 5 rfl) ?_
  refine lv_iload hx hb dL_law_1880 (lv_at hl 0 rfl) ?_
  refine lv_iconst (v := 1) hx hb dL_law_1882 (by decide) ?_
  refine lv_iadd hx hb dL_law_1883 ?_
  refine lv_to (y := nI (i + 1)) (nI_add i 1) ?_
  refine va_sld hx hb hX0 hbl (Nat.not_le.mpr hbl) G.2.2 (i := nI (i + 1)) (vp_in_nI (n := i + 1) (N := L) (by omega) (by omega)) dL_law_1884 ?_
  refine lv_to (y := xs (i + 1)) (congrArg xs (nI_clamp (by omega))) ?_
  refine lv_aload_n hx hb dL_law_1885 rfl (lv_at hl 5 rfl) ?_
  refine lv_iload hx hb dL_law_1886 (lv_at hl 0 rfl) ?_
  refine lv_iconst (v := 2) hx hb dL_law_1888 (by decide) ?_
  refine lv_iadd hx hb dL_law_1889 ?_
  refine lv_to (y := nI (i + 2)) (nI_add i 2) ?_
  refine va_sld hx hb hX0 hbl (Nat.not_le.mpr hbl) G.2.2 (i := nI (i + 2)) (vp_in_nI (n := i + 2) (N := L) (by omega) (by omega)) dL_law_1890 ?_
  refine lv_to (y := xs (i + 2)) (congrArg xs (nI_clamp (by omega))) ?_
  refine lv_aload_n hx hb dL_law_1891 rfl (lv_at hl 2 rfl) ?_
  obtain ⟨⟨k1, r1, T1⟩, hg, hc⟩ := cs_X11_pointBest T 0 (xs (i + 1)) (xs (i + 2)) hV (by decide +kernel)
  have hV1 : IV aR0 1586 aK1 aK2 T1 := hc.1.1
  have hg1 := s_X11_pointBest hg
  have hg2 := sg_le hg1
  have hg3 := hg1.1
  have hk := hV1.2.2.2.2.2.2
  have hrc1 := hg1.2.2 hrc
  have hr0 := a_room
  refine l_v (h0 := s.heap.size) (As := [.ref (ad 0), .int (xs (i + 1)), .int (xs (i + 2)), .ref aj]) (rest := []) E G hA hX hN (fun _ h => h) hTS hml (v_pointBest l hst D s.heap.size ad T 0 (xs (i + 1)) (xs (i + 2)) aj f hg hrc h0T h0s) (vx_cwSW 4 hts (glA (L := [Cond.methodLink RL 357 yL_pointBest, Cond.static yL_pointBest, Cond.initialized RL]) (gl_in [(7, 66), (7, 67), (1, 0)] (by decide +kernel) (by decide +kernel)) ⟨(t_of [Cond.codeWith yL_pointBest cL_pointBest 5 (some .int) [(0, 10, 13, 21), (0, 10, 17, 13), (0, 10, 21, 15)]] [(7, 68)] (by decide +kernel) _ List.mem_cons_self), List.all_eq_true.mp (by decide +kernel : [Cond.codeWith yL_pointBest cL_pointBest 5 (some .int) [(0, 10, 13, 21), (0, 10, 17, 13), (0, 10, 21, 15)]].all goodWord = true) _ List.mem_cons_self⟩) rfl rfl rfl (by decide +kernel) ⟨Nat.le_of_ble_eq_true rfl, Nat.le_of_ble_eq_true rfl⟩) rfl hl.1 rfl (lv_room (Nat.le_of_ble_eq_true rfl)) dL_law_1892 ⟨by show _ ≤ 601024; omega, by show _ ≤ 7293034; omega⟩ ?_
  intro ad2 H locs had G
  rw [← had 0 h0T] at hl
  refine lv_istore (lv' := [(6, .int (vck 1 2 3 k1)), (5, .int (nI i)), (4, .ref ae), (3, .ref aj), (2, .ref (am 0)), (1, .ref (ad2 0)), (0, .ref b)]) hx hb dL_law_1895 hl (by decide) rfl (fun ls hl => ?_)
  refine lv_aload_n hx hb dL_law_1897 rfl (lv_at hl 4 rfl) ?_
  refine lv_aload_n hx hb dL_law_1898 rfl (lv_at hl 6 rfl) ?_
  refine lv_iload hx hb dL_law_1899 (lv_at hl 1 rfl) ?_
  refine lv_iconst (v := 1) hx hb dL_law_1901 (by decide) ?_
  refine lv_iadd hx hb dL_law_1902 ?_
  refine lv_to (y := nI (i + 1)) (nI_add i 1) ?_
  refine va_sld hx hb hX0 hbl (Nat.not_le.mpr hbl) G.2.2 (i := nI (i + 1)) (vp_in_nI (n := i + 1) (N := L) (by omega) (by omega)) dL_law_1903 ?_
  refine lv_to (y := xs (i + 1)) (congrArg xs (nI_clamp (by omega))) ?_
  refine lv_aload_n hx hb dL_law_1904 rfl (lv_at hl 6 rfl) ?_
  refine lv_iload hx hb dL_law_1905 (lv_at hl 1 rfl) ?_
  refine lv_iconst (v := 2) hx hb dL_law_1907 (by decide) ?_
  refine lv_iadd hx hb dL_law_1908 ?_
  refine lv_to (y := nI (i + 2)) (nI_add i 2) ?_
  refine va_sld hx hb hX0 hbl (Nat.not_le.mpr hbl) G.2.2 (i := nI (i + 2)) (vp_in_nI (n := i + 2) (N := L) (by omega) (by omega)) dL_law_1909 ?_
  refine lv_to (y := xs (i + 2)) (congrArg xs (nI_clamp (by omega))) ?_
  obtain ⟨⟨r2, S1⟩, hf, hj⟩ := sj_pointBest Sm (xs (i + 1)) (xs (i + 2)) hJ
  have hJ1 : JJ S1 := hj
  refine y_mi (As := [.int (xs (i + 1)), .int (xs (i + 2))]) (rest := []) E G hA hX.2.2.2.2 hml (tr_pointBest l D cI cJ cZ am Sm (xs (i + 1)) (xs (i + 2)) hf) (cwV 2 hts (glM (L := [Cond.methodLink RL 359 yX12_pointBest, Cond.instanceMethod yX12_pointBest, Cond.selects RX12 yX12_pointBest yX12_pointBest, Cond.initialized RX12]) (gl_in [(10, 133), (10, 134), (10, 135), (1, 14)] (by decide +kernel) (by decide +kernel)) ⟨(t_of [Cond.code yX12_pointBest cX12_pointBest 3 (some .int)] [(10, 136)] (by decide +kernel) _ List.mem_cons_self), List.all_eq_true.mp (by decide +kernel : [Cond.code yX12_pointBest cX12_pointBest 3 (some .int)].all goodWord = true) _ List.mem_cons_self⟩) rfl rfl rfl (by decide +kernel) ⟨Nat.le_of_ble_eq_true rfl, Nat.le_of_ble_eq_true rfl⟩) rfl hl.1 rfl (lv_room (Nat.le_of_ble_eq_true rfl)) dL_law_1910 ⟨by show _ ≤ 601024; omega, by show _ ≤ 7293034; omega⟩ (fun H locs G => ?_)
  refine lv_istore (lv' := [(7, .int r2), (6, .int (vck 1 2 3 k1)), (5, .int (nI i)), (4, .ref ae), (3, .ref aj), (2, .ref (am 0)), (1, .ref (ad2 0)), (0, .ref b)]) hx hb dL_law_1913 hl (by decide) rfl (fun ls hl => ?_)
  refine lv_goto (tgt := 2439) hx hb dL_law_1915 (by decide) ?_
  have hl := lv_sub hl [2, 3, 4, 5, 6, 7] rfl
  refine W.widen (k := 19 + T1.1 + (j + 1)) (n := 38467 + sg T1 + 6 * (j + 1)) (by omega) (by omega) ?_
  exact kk ad2 (vfJ k1 f r1.toInt64) g H locs ls hg hf (had 0 h0T) hV1 hrc1 hJ1 G hl
set_option maxHeartbeats 4000000 in
set_option maxRecDepth 100000 in
theorem y_a50 {p : Program} {e : Env} {s : State} {m : MethodId} {below : List Frame} {meth : Method} {c : Code} (l : Launch) (hst : l.stackTraces = false) {b L : Nat} {xs : Nat → Int32} (hx : p.tables.exec = Jvm.exec) (hb : c.code = code) (hml : c.maxLocals = 9) (hown : s.vm.findClass RL = some m.cls) (hts : ∀ w ∈ lw_tbl, w.before #[Value.ref b] s = true) (hX0 : va_X b L xs s s.heap) (hbl : b < s.heap.size) (hX : xT (fun q => s.heap.size ≤ q) s) (hN : nC s) (hTS : sAll s.heap.size s) {D : va_G} {cI cJ cZ cMic cSrc cSt cAI cAJ cD : ClassId} (hK : va_K D vwCl (CT cI cJ cZ cMic cSrc cSt cAI cAJ ++ [(cD, .double)]) s) {Q : State → Prop} {i j : Nat} (hi : i + 6 ≤ L) (hL : L ≤ 3072) (hj : j < 512) {aj ae : Nat} {ad am : Nat → Nat} {T : AT} {Sm : MS} {f : Nat → Int64} {g : Nat → UInt64} {ls : Array Slot} {H : Heap} {locs : List Loc} (hV : IV aR0 1586 aK1 aK2 T) (hrc : RC T) (hJ : JJ Sm) (G : gL cI cJ cZ cMic cSrc cSt cAI cAJ D ad (fun q => s.heap.size ≤ q) s.heap H locs T (oJ aj cJ f :: oD ae cD g :: MW cI cJ cZ am Sm)) (hl : lv_has ls 9 [(5, .int (nI i)), (4, .ref ae), (3, .ref aj), (2, .ref (am 0)), (1, .ref (ad 0)), (0, .ref b)]) (kk : ∀ {k1 : Nat} {r1 : Int64} {T1 : AT} {r2 : Int64} {S1 : MS} (ad2 : Nat → Nat) (f1 : Nat → Int64) (g1 : Nat → UInt64) (H1 : Heap) (locs1 : List Loc) (ls1 : Array Slot), g_X11_pointPower T 0 (xs (i + 1)) (xs (i + 2)) (xs (i + 3)) = some (k1, r1, T1) → fr_pointPower Sm (xs (i + 1)) (xs (i + 2)) (xs (i + 3)) = some (r2, S1) → ad2 0 = ad 0 → IV aR0 1586 aK1 aK2 T1 → RC T1 → JJ S1 → gL cI cJ cZ cMic cSrc cSt cAI cAJ D ad2 (fun q => s.heap.size ≤ q) s.heap H1 locs1 T1 (oJ aj cJ f1 :: oD ae cD g1 :: MW cI cJ cZ am S1) → lv_has ls1 9 [(5, .int (nI i)), (4, .ref ae), (3, .ref aj), (2, .ref (am 0)), (1, .ref (ad2 0)), (0, .ref b)] → W p l e room_1 s m #[Value.ref b] below meth c H1 locs1 (19 + T1.1 + (j + 1)) (38467 + sg T1 + 6 * (j + 1)) Q (F0 m 2439 ls1 [])) : W p l e room_1 s m #[Value.ref b] below meth c H locs (19 + T.1 + j) (38467 + sg T + 6 * j) Q (F0 m 1918 ls []) := by
  have E : cE p c cL_law s m #[Value.ref b] lw_tbl D RL (CT cI cJ cZ cMic cSrc cSt cAI cAJ ++ [(cD, .double)]) := ⟨hx, hb, hts, hown, hK⟩
  have hA : ∀ q : Nat, s.heap.size ≤ q → s.heap.size ≤ q := fun _ h => h
  have h0T : 0 < T.1 := Nat.lt_of_lt_of_le (by decide) hV.1.2.2
  have h0s : T.2.1 0 = (11, 0) := hV.2.1 0 ⟨by decide, by decide +kernel, by decide +kernel⟩
  refine lv_aload_n hx hb dL_law_1918 rfl (lv_at hl 4 rfl) ?_
  refine lv_aload_n hx hb dL_law_1919 rfl (lv_at hl 5 rfl) ?_
  refine lv_iload hx hb dL_law_1920 (lv_at hl 0 rfl) ?_
  refine lv_iconst (v := 1) hx hb dL_law_1922 (by decide) ?_
  refine lv_iadd hx hb dL_law_1923 ?_
  refine lv_to (y := nI (i + 1)) (nI_add i 1) ?_
  refine va_sld hx hb hX0 hbl (Nat.not_le.mpr hbl) G.2.2 (i := nI (i + 1)) (vp_in_nI (n := i + 1) (N := L) (by omega) (by omega)) dL_law_1924 ?_
  refine lv_to (y := xs (i + 1)) (congrArg xs (nI_clamp (by omega))) ?_
  refine lv_aload_n hx hb dL_law_1925 rfl (lv_at hl 5 rfl) ?_
  refine lv_iload hx hb dL_law_1926 (lv_at hl 0 rfl) ?_
  refine lv_iconst (v := 2) hx hb dL_law_1928 (by decide) ?_
  refine lv_iadd hx hb dL_law_1929 ?_
  refine lv_to (y := nI (i + 2)) (nI_add i 2) ?_
  refine va_sld hx hb hX0 hbl (Nat.not_le.mpr hbl) G.2.2 (i := nI (i + 2)) (vp_in_nI (n := i + 2) (N := L) (by omega) (by omega)) dL_law_1930 ?_
  refine lv_to (y := xs (i + 2)) (congrArg xs (nI_clamp (by omega))) ?_
  refine lv_aload_n hx hb dL_law_1931 rfl (lv_at hl 5 rfl) ?_
  refine lv_iload hx hb dL_law_1932 (lv_at hl 0 rfl) ?_
  refine lv_iconst (v := 3) hx hb dL_law_1934 (by decide) ?_
  refine lv_iadd hx hb dL_law_1935 ?_
  refine lv_to (y := nI (i + 3)) (nI_add i 3) ?_
  refine va_sld hx hb hX0 hbl (Nat.not_le.mpr hbl) G.2.2 (i := nI (i + 3)) (vp_in_nI (n := i + 3) (N := L) (by omega) (by omega)) dL_law_1936 ?_
  refine lv_to (y := xs (i + 3)) (congrArg xs (nI_clamp (by omega))) ?_
  refine lv_aload_n hx hb dL_law_1937 rfl (lv_at hl 2 rfl) ?_
  obtain ⟨⟨k1, r1, T1⟩, hg, hc⟩ := cs_X11_pointPower T 0 (xs (i + 1)) (xs (i + 2)) (xs (i + 3)) hV (by decide +kernel)
  have hV1 : IV aR0 1586 aK1 aK2 T1 := hc.1.1
  have hg1 := s_X11_pointPower hg
  have hg2 := sg_le hg1
  have hg3 := hg1.1
  have hk := hV1.2.2.2.2.2.2
  have hrc1 := hg1.2.2 hrc
  have hr0 := a_room
  refine l_v (h0 := s.heap.size) (As := [.ref (ad 0), .int (xs (i + 1)), .int (xs (i + 2)), .int (xs (i + 3)), .ref aj]) (rest := []) E G hA hX hN (fun _ h => h) hTS hml (v_pointPower l hst D s.heap.size ad T 0 (xs (i + 1)) (xs (i + 2)) (xs (i + 3)) aj f hg hrc h0T h0s) (vx_cwSW 5 hts (glA (L := [Cond.methodLink RL 360 yL_pointPower, Cond.static yL_pointPower, Cond.initialized RL]) (gl_in [(7, 99), (7, 100), (1, 0)] (by decide +kernel) (by decide +kernel)) ⟨(t_of [Cond.codeWith yL_pointPower cL_pointPower 6 (some .int) [(0, 11, 14, 21), (0, 11, 18, 13), (0, 11, 22, 15)]] [(7, 101)] (by decide +kernel) _ List.mem_cons_self), List.all_eq_true.mp (by decide +kernel : [Cond.codeWith yL_pointPower cL_pointPower 6 (some .int) [(0, 11, 14, 21), (0, 11, 18, 13), (0, 11, 22, 15)]].all goodWord = true) _ List.mem_cons_self⟩) rfl rfl rfl (by decide +kernel) ⟨Nat.le_of_ble_eq_true rfl, Nat.le_of_ble_eq_true rfl⟩) rfl hl.1 rfl (lv_room (Nat.le_of_ble_eq_true rfl)) dL_law_1938 ⟨by show _ ≤ 601024; omega, by show _ ≤ 7293034; omega⟩ ?_
  intro ad2 H locs had G
  rw [← had 0 h0T] at hl
  refine lv_istore (lv' := [(6, .int (vck 1 2 3 k1)), (5, .int (nI i)), (4, .ref ae), (3, .ref aj), (2, .ref (am 0)), (1, .ref (ad2 0)), (0, .ref b)]) hx hb dL_law_1941 hl (by decide) rfl (fun ls hl => ?_)
  refine lv_aload_n hx hb dL_law_1943 rfl (lv_at hl 4 rfl) ?_
  refine lv_aload_n hx hb dL_law_1944 rfl (lv_at hl 6 rfl) ?_
  refine lv_iload hx hb dL_law_1945 (lv_at hl 1 rfl) ?_
  refine lv_iconst (v := 1) hx hb dL_law_1947 (by decide) ?_
  refine lv_iadd hx hb dL_law_1948 ?_
  refine lv_to (y := nI (i + 1)) (nI_add i 1) ?_
  refine va_sld hx hb hX0 hbl (Nat.not_le.mpr hbl) G.2.2 (i := nI (i + 1)) (vp_in_nI (n := i + 1) (N := L) (by omega) (by omega)) dL_law_1949 ?_
  refine lv_to (y := xs (i + 1)) (congrArg xs (nI_clamp (by omega))) ?_
  refine lv_aload_n hx hb dL_law_1950 rfl (lv_at hl 6 rfl) ?_
  refine lv_iload hx hb dL_law_1951 (lv_at hl 1 rfl) ?_
  refine lv_iconst (v := 2) hx hb dL_law_1953 (by decide) ?_
  refine lv_iadd hx hb dL_law_1954 ?_
  refine lv_to (y := nI (i + 2)) (nI_add i 2) ?_
  refine va_sld hx hb hX0 hbl (Nat.not_le.mpr hbl) G.2.2 (i := nI (i + 2)) (vp_in_nI (n := i + 2) (N := L) (by omega) (by omega)) dL_law_1955 ?_
  refine lv_to (y := xs (i + 2)) (congrArg xs (nI_clamp (by omega))) ?_
  refine lv_aload_n hx hb dL_law_1956 rfl (lv_at hl 6 rfl) ?_
  refine lv_iload hx hb dL_law_1957 (lv_at hl 1 rfl) ?_
  refine lv_iconst (v := 3) hx hb dL_law_1959 (by decide) ?_
  refine lv_iadd hx hb dL_law_1960 ?_
  refine lv_to (y := nI (i + 3)) (nI_add i 3) ?_
  refine va_sld hx hb hX0 hbl (Nat.not_le.mpr hbl) G.2.2 (i := nI (i + 3)) (vp_in_nI (n := i + 3) (N := L) (by omega) (by omega)) dL_law_1961 ?_
  refine lv_to (y := xs (i + 3)) (congrArg xs (nI_clamp (by omega))) ?_
  obtain ⟨⟨r2, S1⟩, hf, hj⟩ := sj_pointPower Sm (xs (i + 1)) (xs (i + 2)) (xs (i + 3)) hJ
  have hJ1 : JJ S1 := hj
  refine y_ml (As := [.int (xs (i + 1)), .int (xs (i + 2)), .int (xs (i + 3))]) (rest := []) E G hA hX.2.2.2.2 hml (tr_pointPower l D cI cJ cZ am Sm (xs (i + 1)) (xs (i + 2)) (xs (i + 3)) hf) (cwV 3 hts (glM (L := [Cond.methodLink RL 362 yX12_pointPower, Cond.instanceMethod yX12_pointPower, Cond.selects RX12 yX12_pointPower yX12_pointPower, Cond.initialized RX12]) (gl_in [(10, 141), (10, 142), (10, 143), (1, 14)] (by decide +kernel) (by decide +kernel)) ⟨(t_of [Cond.code yX12_pointPower cX12_pointPower 4 (some .long)] [(10, 144)] (by decide +kernel) _ List.mem_cons_self), List.all_eq_true.mp (by decide +kernel : [Cond.code yX12_pointPower cX12_pointPower 4 (some .long)].all goodWord = true) _ List.mem_cons_self⟩) rfl rfl rfl (by decide +kernel) ⟨Nat.le_of_ble_eq_true rfl, Nat.le_of_ble_eq_true rfl⟩) rfl hl.1 rfl (lv_room (Nat.le_of_ble_eq_true rfl)) dL_law_1962 ⟨by show _ ≤ 601024; omega, by show _ ≤ 7293034; omega⟩ (fun H locs G => ?_)
  refine lv_lstore (lv' := [(7, .long r2), (6, .int (vck 1 2 3 k1)), (5, .int (nI i)), (4, .ref ae), (3, .ref aj), (2, .ref (am 0)), (1, .ref (ad2 0)), (0, .ref b)]) hx hb dL_law_1965 hl (by decide) rfl (fun ls hl => ?_)
  refine lv_goto (tgt := 2439) hx hb dL_law_1967 (by decide) ?_
  have hl := lv_sub hl [2, 3, 4, 5, 6, 7] rfl
  refine W.widen (k := 19 + T1.1 + (j + 1)) (n := 38467 + sg T1 + 6 * (j + 1)) (by omega) (by omega) ?_
  exact kk ad2 (vfJ k1 f r1) g H locs ls hg hf (had 0 h0T) hV1 hrc1 hJ1 G hl
set_option maxHeartbeats 4000000 in
set_option maxRecDepth 100000 in
theorem y_a51 {p : Program} {e : Env} {s : State} {m : MethodId} {below : List Frame} {meth : Method} {c : Code} (l : Launch) (hst : l.stackTraces = false) {b L : Nat} {xs : Nat → Int32} (hx : p.tables.exec = Jvm.exec) (hb : c.code = code) (hml : c.maxLocals = 9) (hown : s.vm.findClass RL = some m.cls) (hts : ∀ w ∈ lw_tbl, w.before #[Value.ref b] s = true) (hX0 : va_X b L xs s s.heap) (hbl : b < s.heap.size) (hX : xT (fun q => s.heap.size ≤ q) s) (hN : nC s) (hTS : sAll s.heap.size s) {D : va_G} {cI cJ cZ cMic cSrc cSt cAI cAJ cD : ClassId} (hK : va_K D vwCl (CT cI cJ cZ cMic cSrc cSt cAI cAJ ++ [(cD, .double)]) s) {Q : State → Prop} {i j : Nat} (hi : i + 6 ≤ L) (hL : L ≤ 3072) (hj : j < 512) {aj ae : Nat} {ad am : Nat → Nat} {T : AT} {Sm : MS} {f : Nat → Int64} {g : Nat → UInt64} {ls : Array Slot} {H : Heap} {locs : List Loc} (hV : IV aR0 1586 aK1 aK2 T) (hrc : RC T) (hJ : JJ Sm) (G : gL cI cJ cZ cMic cSrc cSt cAI cAJ D ad (fun q => s.heap.size ≤ q) s.heap H locs T (oJ aj cJ f :: oD ae cD g :: MW cI cJ cZ am Sm)) (hl : lv_has ls 9 [(5, .int (nI i)), (4, .ref ae), (3, .ref aj), (2, .ref (am 0)), (1, .ref (ad 0)), (0, .ref b)]) (kk : ∀ {k1 : Nat} {r1 : Int32} {T1 : AT} {r2 : Int32} {S1 : MS} (ad2 : Nat → Nat) (f1 : Nat → Int64) (g1 : Nat → UInt64) (H1 : Heap) (locs1 : List Loc) (ls1 : Array Slot), g_X11_bestWithout T 0 (xs (i + 1)) = some (k1, r1, T1) → fr_bestWithout Sm (xs (i + 1)) = some (r2, S1) → ad2 0 = ad 0 → IV aR0 1586 aK1 aK2 T1 → RC T1 → JJ S1 → gL cI cJ cZ cMic cSrc cSt cAI cAJ D ad2 (fun q => s.heap.size ≤ q) s.heap H1 locs1 T1 (oJ aj cJ f1 :: oD ae cD g1 :: MW cI cJ cZ am S1) → lv_has ls1 9 [(5, .int (nI i)), (4, .ref ae), (3, .ref aj), (2, .ref (am 0)), (1, .ref (ad2 0)), (0, .ref b)] → W p l e room_1 s m #[Value.ref b] below meth c H1 locs1 (19 + T1.1 + (j + 1)) (38467 + sg T1 + 6 * (j + 1)) Q (F0 m 2439 ls1 [])) : W p l e room_1 s m #[Value.ref b] below meth c H locs (19 + T.1 + j) (38467 + sg T + 6 * j) Q (F0 m 1970 ls []) := by
  have E : cE p c cL_law s m #[Value.ref b] lw_tbl D RL (CT cI cJ cZ cMic cSrc cSt cAI cAJ ++ [(cD, .double)]) := ⟨hx, hb, hts, hown, hK⟩
  have hA : ∀ q : Nat, s.heap.size ≤ q → s.heap.size ≤ q := fun _ h => h
  have h0T : 0 < T.1 := Nat.lt_of_lt_of_le (by decide) hV.1.2.2
  have h0s : T.2.1 0 = (11, 0) := hV.2.1 0 ⟨by decide, by decide +kernel, by decide +kernel⟩
  refine lv_aload_n hx hb dL_law_1970 rfl (lv_at hl 4 rfl) ?_
  refine lv_aload_n hx hb dL_law_1971 rfl (lv_at hl 5 rfl) ?_
  refine lv_iload hx hb dL_law_1972 (lv_at hl 0 rfl) ?_
  refine lv_iconst (v := 1) hx hb dL_law_1974 (by decide) ?_
  refine lv_iadd hx hb dL_law_1975 ?_
  refine lv_to (y := nI (i + 1)) (nI_add i 1) ?_
  refine va_sld hx hb hX0 hbl (Nat.not_le.mpr hbl) G.2.2 (i := nI (i + 1)) (vp_in_nI (n := i + 1) (N := L) (by omega) (by omega)) dL_law_1976 ?_
  refine lv_to (y := xs (i + 1)) (congrArg xs (nI_clamp (by omega))) ?_
  refine lv_aload_n hx hb dL_law_1977 rfl (lv_at hl 2 rfl) ?_
  obtain ⟨⟨k1, r1, T1⟩, hg, hc⟩ := cs_X11_bestWithout T 0 (xs (i + 1)) hV (by decide +kernel)
  have hV1 : IV aR0 1586 aK1 aK2 T1 := hc.1.1
  have hg1 := s_X11_bestWithout hg
  have hg2 := sg_le hg1
  have hg3 := hg1.1
  have hk := hV1.2.2.2.2.2.2
  have hrc1 := hg1.2.2 hrc
  have hr0 := a_room
  refine l_v (h0 := s.heap.size) (As := [.ref (ad 0), .int (xs (i + 1)), .ref aj]) (rest := []) E G hA hX hN (fun _ h => h) hTS hml (v_bestWithout l hst D s.heap.size ad T 0 (xs (i + 1)) aj f hg hrc h0T h0s) (vx_cwSW 3 hts (glA (L := [Cond.methodLink RL 363 yL_bestWithout, Cond.static yL_bestWithout, Cond.initialized RL]) (gl_in [(7, 106), (7, 107), (1, 0)] (by decide +kernel) (by decide +kernel)) ⟨(t_of [Cond.codeWith yL_bestWithout cL_bestWithout 4 (some .int) [(0, 9, 12, 21), (0, 9, 15, 13)]] [(7, 108)] (by decide +kernel) _ List.mem_cons_self), List.all_eq_true.mp (by decide +kernel : [Cond.codeWith yL_bestWithout cL_bestWithout 4 (some .int) [(0, 9, 12, 21), (0, 9, 15, 13)]].all goodWord = true) _ List.mem_cons_self⟩) rfl rfl rfl (by decide +kernel) ⟨Nat.le_of_ble_eq_true rfl, Nat.le_of_ble_eq_true rfl⟩) rfl hl.1 rfl (lv_room (Nat.le_of_ble_eq_true rfl)) dL_law_1978 ⟨by show _ ≤ 601024; omega, by show _ ≤ 7293034; omega⟩ ?_
  intro ad2 H locs had G
  rw [← had 0 h0T] at hl
  refine lv_istore (lv' := [(6, .int (vck 1 2 0 k1)), (5, .int (nI i)), (4, .ref ae), (3, .ref aj), (2, .ref (am 0)), (1, .ref (ad2 0)), (0, .ref b)]) hx hb dL_law_1981 hl (by decide) rfl (fun ls hl => ?_)
  refine lv_aload_n hx hb dL_law_1983 rfl (lv_at hl 4 rfl) ?_
  refine lv_aload_n hx hb dL_law_1984 rfl (lv_at hl 6 rfl) ?_
  refine lv_iload hx hb dL_law_1985 (lv_at hl 1 rfl) ?_
  refine lv_iconst (v := 1) hx hb dL_law_1987 (by decide) ?_
  refine lv_iadd hx hb dL_law_1988 ?_
  refine lv_to (y := nI (i + 1)) (nI_add i 1) ?_
  refine va_sld hx hb hX0 hbl (Nat.not_le.mpr hbl) G.2.2 (i := nI (i + 1)) (vp_in_nI (n := i + 1) (N := L) (by omega) (by omega)) dL_law_1989 ?_
  refine lv_to (y := xs (i + 1)) (congrArg xs (nI_clamp (by omega))) ?_
  obtain ⟨⟨r2, S1⟩, hf, hj⟩ := sj_bestWithout Sm (xs (i + 1)) hJ
  have hJ1 : JJ S1 := hj
  refine y_mi (As := [.int (xs (i + 1))]) (rest := []) E G hA hX.2.2.2.2 hml (tr_bestWithout l D cI cJ cZ am Sm (xs (i + 1)) hf) (cwV 1 hts (glM (L := [Cond.methodLink RL 365 yX12_bestWithout, Cond.instanceMethod yX12_bestWithout, Cond.selects RX12 yX12_bestWithout yX12_bestWithout, Cond.initialized RX12]) (gl_in [(10, 145), (10, 146), (10, 147), (1, 14)] (by decide +kernel) (by decide +kernel)) ⟨(t_of [Cond.code yX12_bestWithout cX12_bestWithout 2 (some .int)] [(10, 148)] (by decide +kernel) _ List.mem_cons_self), List.all_eq_true.mp (by decide +kernel : [Cond.code yX12_bestWithout cX12_bestWithout 2 (some .int)].all goodWord = true) _ List.mem_cons_self⟩) rfl rfl rfl (by decide +kernel) ⟨Nat.le_of_ble_eq_true rfl, Nat.le_of_ble_eq_true rfl⟩) rfl hl.1 rfl (lv_room (Nat.le_of_ble_eq_true rfl)) dL_law_1990 ⟨by show _ ≤ 601024; omega, by show _ ≤ 7293034; omega⟩ (fun H locs G => ?_)
  refine lv_istore (lv' := [(7, .int r2), (6, .int (vck 1 2 0 k1)), (5, .int (nI i)), (4, .ref ae), (3, .ref aj), (2, .ref (am 0)), (1, .ref (ad2 0)), (0, .ref b)]) hx hb dL_law_1993 hl (by decide) rfl (fun ls hl => ?_)
  refine lv_goto (tgt := 2439) hx hb dL_law_1995 (by decide) ?_
  have hl := lv_sub hl [2, 3, 4, 5, 6, 7] rfl
  refine W.widen (k := 19 + T1.1 + (j + 1)) (n := 38467 + sg T1 + 6 * (j + 1)) (by omega) (by omega) ?_
  exact kk ad2 (vfJ k1 f r1.toInt64) g H locs ls hg hf (had 0 h0T) hV1 hrc1 hJ1 G hl
set_option maxHeartbeats 4000000 in
set_option maxRecDepth 100000 in
theorem y_a52 {p : Program} {e : Env} {s : State} {m : MethodId} {below : List Frame} {meth : Method} {c : Code} (l : Launch) (hst : l.stackTraces = false) {b L : Nat} {xs : Nat → Int32} (hx : p.tables.exec = Jvm.exec) (hb : c.code = code) (hml : c.maxLocals = 9) (hown : s.vm.findClass RL = some m.cls) (hts : ∀ w ∈ lw_tbl, w.before #[Value.ref b] s = true) (hX0 : va_X b L xs s s.heap) (hbl : b < s.heap.size) (hX : xT (fun q => s.heap.size ≤ q) s) (hN : nC s) (hTS : sAll s.heap.size s) {D : va_G} {cI cJ cZ cMic cSrc cSt cAI cAJ cD : ClassId} (hK : va_K D vwCl (CT cI cJ cZ cMic cSrc cSt cAI cAJ ++ [(cD, .double)]) s) {Q : State → Prop} {i j : Nat} (hi : i + 6 ≤ L) (hL : L ≤ 3072) (hj : j < 512) {aj ae : Nat} {ad am : Nat → Nat} {T : AT} {Sm : MS} {f : Nat → Int64} {g : Nat → UInt64} {ls : Array Slot} {H : Heap} {locs : List Loc} (hV : IV aR0 1586 aK1 aK2 T) (hrc : RC T) (hJ : JJ Sm) (G : gL cI cJ cZ cMic cSrc cSt cAI cAJ D ad (fun q => s.heap.size ≤ q) s.heap H locs T (oJ aj cJ f :: oD ae cD g :: MW cI cJ cZ am Sm)) (hl : lv_has ls 9 [(5, .int (nI i)), (4, .ref ae), (3, .ref aj), (2, .ref (am 0)), (1, .ref (ad 0)), (0, .ref b)]) (kk : ∀ {k1 : Nat} {r1 : Int32} {T1 : AT} {r2 : Int32} {S1 : MS} (ad2 : Nat → Nat) (f1 : Nat → Int64) (g1 : Nat → UInt64) (H1 : Heap) (locs1 : List Loc) (ls1 : Array Slot), g_X11_bestIfOff T 0 (xs (i + 1)) = some (k1, r1, T1) → fr_bestIfOff Sm (xs (i + 1)) = some (r2, S1) → ad2 0 = ad 0 → IV aR0 1586 aK1 aK2 T1 → RC T1 → JJ S1 → gL cI cJ cZ cMic cSrc cSt cAI cAJ D ad2 (fun q => s.heap.size ≤ q) s.heap H1 locs1 T1 (oJ aj cJ f1 :: oD ae cD g1 :: MW cI cJ cZ am S1) → lv_has ls1 9 [(5, .int (nI i)), (4, .ref ae), (3, .ref aj), (2, .ref (am 0)), (1, .ref (ad2 0)), (0, .ref b)] → W p l e room_1 s m #[Value.ref b] below meth c H1 locs1 (19 + T1.1 + (j + 1)) (38467 + sg T1 + 6 * (j + 1)) Q (F0 m 2439 ls1 [])) : W p l e room_1 s m #[Value.ref b] below meth c H locs (19 + T.1 + j) (38467 + sg T + 6 * j) Q (F0 m 1998 ls []) := by
  have E : cE p c cL_law s m #[Value.ref b] lw_tbl D RL (CT cI cJ cZ cMic cSrc cSt cAI cAJ ++ [(cD, .double)]) := ⟨hx, hb, hts, hown, hK⟩
  have hA : ∀ q : Nat, s.heap.size ≤ q → s.heap.size ≤ q := fun _ h => h
  have h0T : 0 < T.1 := Nat.lt_of_lt_of_le (by decide) hV.1.2.2
  have h0s : T.2.1 0 = (11, 0) := hV.2.1 0 ⟨by decide, by decide +kernel, by decide +kernel⟩
  refine lv_aload_n hx hb dL_law_1998 rfl (lv_at hl 4 rfl) ?_
  refine lv_aload_n hx hb dL_law_1999 rfl (lv_at hl 5 rfl) ?_
  refine lv_iload hx hb dL_law_2000 (lv_at hl 0 rfl) ?_
  refine lv_iconst (v := 1) hx hb dL_law_2002 (by decide) ?_
  refine lv_iadd hx hb dL_law_2003 ?_
  refine lv_to (y := nI (i + 1)) (nI_add i 1) ?_
  refine va_sld hx hb hX0 hbl (Nat.not_le.mpr hbl) G.2.2 (i := nI (i + 1)) (vp_in_nI (n := i + 1) (N := L) (by omega) (by omega)) dL_law_2004 ?_
  refine lv_to (y := xs (i + 1)) (congrArg xs (nI_clamp (by omega))) ?_
  refine lv_aload_n hx hb dL_law_2005 rfl (lv_at hl 2 rfl) ?_
  obtain ⟨⟨k1, r1, T1⟩, hg, hc⟩ := cs_X11_bestIfOff T 0 (xs (i + 1)) hV (by decide +kernel)
  have hV1 : IV aR0 1586 aK1 aK2 T1 := hc.1.1
  have hg1 := s_X11_bestIfOff hg
  have hg2 := sg_le hg1
  have hg3 := hg1.1
  have hk := hV1.2.2.2.2.2.2
  have hrc1 := hg1.2.2 hrc
  have hr0 := a_room
  refine l_v (h0 := s.heap.size) (As := [.ref (ad 0), .int (xs (i + 1)), .ref aj]) (rest := []) E G hA hX hN (fun _ h => h) hTS hml (v_bestIfOff l hst D s.heap.size ad T 0 (xs (i + 1)) aj f hg hrc h0T h0s) (vx_cwSW 3 hts (glA (L := [Cond.methodLink RL 366 yL_bestIfOff, Cond.static yL_bestIfOff, Cond.initialized RL]) (gl_in [(7, 113), (7, 114), (1, 0)] (by decide +kernel) (by decide +kernel)) ⟨(t_of [Cond.codeWith yL_bestIfOff cL_bestIfOff 4 (some .int) [(0, 9, 12, 21), (0, 9, 15, 13)]] [(7, 115)] (by decide +kernel) _ List.mem_cons_self), List.all_eq_true.mp (by decide +kernel : [Cond.codeWith yL_bestIfOff cL_bestIfOff 4 (some .int) [(0, 9, 12, 21), (0, 9, 15, 13)]].all goodWord = true) _ List.mem_cons_self⟩) rfl rfl rfl (by decide +kernel) ⟨Nat.le_of_ble_eq_true rfl, Nat.le_of_ble_eq_true rfl⟩) rfl hl.1 rfl (lv_room (Nat.le_of_ble_eq_true rfl)) dL_law_2006 ⟨by show _ ≤ 601024; omega, by show _ ≤ 7293034; omega⟩ ?_
  intro ad2 H locs had G
  rw [← had 0 h0T] at hl
  refine lv_istore (lv' := [(6, .int (vck 1 2 0 k1)), (5, .int (nI i)), (4, .ref ae), (3, .ref aj), (2, .ref (am 0)), (1, .ref (ad2 0)), (0, .ref b)]) hx hb dL_law_2009 hl (by decide) rfl (fun ls hl => ?_)
  refine lv_aload_n hx hb dL_law_2011 rfl (lv_at hl 4 rfl) ?_
  refine lv_aload_n hx hb dL_law_2012 rfl (lv_at hl 6 rfl) ?_
  refine lv_iload hx hb dL_law_2013 (lv_at hl 1 rfl) ?_
  refine lv_iconst (v := 1) hx hb dL_law_2015 (by decide) ?_
  refine lv_iadd hx hb dL_law_2016 ?_
  refine lv_to (y := nI (i + 1)) (nI_add i 1) ?_
  refine va_sld hx hb hX0 hbl (Nat.not_le.mpr hbl) G.2.2 (i := nI (i + 1)) (vp_in_nI (n := i + 1) (N := L) (by omega) (by omega)) dL_law_2017 ?_
  refine lv_to (y := xs (i + 1)) (congrArg xs (nI_clamp (by omega))) ?_
  obtain ⟨⟨r2, S1⟩, hf, hj⟩ := sj_bestIfOff Sm (xs (i + 1)) hJ
  have hJ1 : JJ S1 := hj
  refine y_mi (As := [.int (xs (i + 1))]) (rest := []) E G hA hX.2.2.2.2 hml (tr_bestIfOff l D cI cJ cZ am Sm (xs (i + 1)) hf) (cwV 1 hts (glM (L := [Cond.methodLink RL 368 yX12_bestIfOff, Cond.instanceMethod yX12_bestIfOff, Cond.selects RX12 yX12_bestIfOff yX12_bestIfOff, Cond.initialized RX12]) (gl_in [(10, 149), (10, 150), (10, 151), (1, 14)] (by decide +kernel) (by decide +kernel)) ⟨(t_of [Cond.code yX12_bestIfOff cX12_bestIfOff 2 (some .int)] [(10, 152)] (by decide +kernel) _ List.mem_cons_self), List.all_eq_true.mp (by decide +kernel : [Cond.code yX12_bestIfOff cX12_bestIfOff 2 (some .int)].all goodWord = true) _ List.mem_cons_self⟩) rfl rfl rfl (by decide +kernel) ⟨Nat.le_of_ble_eq_true rfl, Nat.le_of_ble_eq_true rfl⟩) rfl hl.1 rfl (lv_room (Nat.le_of_ble_eq_true rfl)) dL_law_2018 ⟨by show _ ≤ 601024; omega, by show _ ≤ 7293034; omega⟩ (fun H locs G => ?_)
  refine lv_istore (lv' := [(7, .int r2), (6, .int (vck 1 2 0 k1)), (5, .int (nI i)), (4, .ref ae), (3, .ref aj), (2, .ref (am 0)), (1, .ref (ad2 0)), (0, .ref b)]) hx hb dL_law_2021 hl (by decide) rfl (fun ls hl => ?_)
  refine lv_goto (tgt := 2439) hx hb dL_law_2023 (by decide) ?_
  have hl := lv_sub hl [2, 3, 4, 5, 6, 7] rfl
  refine W.widen (k := 19 + T1.1 + (j + 1)) (n := 38467 + sg T1 + 6 * (j + 1)) (by omega) (by omega) ?_
  exact kk ad2 (vfJ k1 f r1.toInt64) g H locs ls hg hf (had 0 h0T) hV1 hrc1 hJ1 G hl
set_option maxHeartbeats 4000000 in
set_option maxRecDepth 100000 in
theorem y_a53 {p : Program} {e : Env} {s : State} {m : MethodId} {below : List Frame} {meth : Method} {c : Code} (l : Launch) (hst : l.stackTraces = false) {b L : Nat} {xs : Nat → Int32} (hx : p.tables.exec = Jvm.exec) (hb : c.code = code) (hml : c.maxLocals = 9) (hown : s.vm.findClass RL = some m.cls) (hts : ∀ w ∈ lw_tbl, w.before #[Value.ref b] s = true) (hX0 : va_X b L xs s s.heap) (hbl : b < s.heap.size) (hX : xT (fun q => s.heap.size ≤ q) s) (hN : nC s) (hTS : sAll s.heap.size s) {D : va_G} {cI cJ cZ cMic cSrc cSt cAI cAJ cD : ClassId} (hK : va_K D vwCl (CT cI cJ cZ cMic cSrc cSt cAI cAJ ++ [(cD, .double)]) s) {Q : State → Prop} {i j : Nat} (hi : i + 6 ≤ L) (hL : L ≤ 3072) (hj : j < 512) {aj ae : Nat} {ad am : Nat → Nat} {T : AT} {Sm : MS} {f : Nat → Int64} {g : Nat → UInt64} {ls : Array Slot} {H : Heap} {locs : List Loc} (hV : IV aR0 1586 aK1 aK2 T) (hrc : RC T) (hJ : JJ Sm) (G : gL cI cJ cZ cMic cSrc cSt cAI cAJ D ad (fun q => s.heap.size ≤ q) s.heap H locs T (oJ aj cJ f :: oD ae cD g :: MW cI cJ cZ am Sm)) (hl : lv_has ls 9 [(5, .int (nI i)), (4, .ref ae), (3, .ref aj), (2, .ref (am 0)), (1, .ref (ad 0)), (0, .ref b)]) (kk : ∀ {k1 : Nat} {r1 : Int32} {T1 : AT} {r2 : Int32} {S1 : MS} (ad2 : Nat → Nat) (f1 : Nat → Int64) (g1 : Nat → UInt64) (H1 : Heap) (locs1 : List Loc) (ls1 : Array Slot), g_X11_mute T 0 (xs (i + 1)) (vnz (xs (i + 2))) = some (k1, r1, T1) → fr_mute Sm (xs (i + 1)) (vnz (xs (i + 2))) = some (r2, S1) → ad2 0 = ad 0 → IV aR0 1586 aK1 aK2 T1 → RC T1 → JJ S1 → gL cI cJ cZ cMic cSrc cSt cAI cAJ D ad2 (fun q => s.heap.size ≤ q) s.heap H1 locs1 T1 (oJ aj cJ f1 :: oD ae cD g1 :: MW cI cJ cZ am S1) → lv_has ls1 9 [(5, .int (nI i)), (4, .ref ae), (3, .ref aj), (2, .ref (am 0)), (1, .ref (ad2 0)), (0, .ref b)] → W p l e room_1 s m #[Value.ref b] below meth c H1 locs1 (19 + T1.1 + (j + 1)) (38467 + sg T1 + 6 * (j + 1)) Q (F0 m 2439 ls1 [])) : W p l e room_1 s m #[Value.ref b] below meth c H locs (19 + T.1 + j) (38467 + sg T + 6 * j) Q (F0 m 2026 ls []) := by
  have E : cE p c cL_law s m #[Value.ref b] lw_tbl D RL (CT cI cJ cZ cMic cSrc cSt cAI cAJ ++ [(cD, .double)]) := ⟨hx, hb, hts, hown, hK⟩
  have hA : ∀ q : Nat, s.heap.size ≤ q → s.heap.size ≤ q := fun _ h => h
  have h0T : 0 < T.1 := Nat.lt_of_lt_of_le (by decide) hV.1.2.2
  have h0s : T.2.1 0 = (11, 0) := hV.2.1 0 ⟨by decide, by decide +kernel, by decide +kernel⟩
  refine lv_aload_n hx hb dL_law_2026 rfl (lv_at hl 4 rfl) ?_
  refine lv_aload_n hx hb dL_law_2027 rfl (lv_at hl 5 rfl) ?_
  refine lv_iload hx hb dL_law_2028 (lv_at hl 0 rfl) ?_
  refine lv_iconst (v := 1) hx hb dL_law_2030 (by decide) ?_
  refine lv_iadd hx hb dL_law_2031 ?_
  refine lv_to (y := nI (i + 1)) (nI_add i 1) ?_
  refine va_sld hx hb hX0 hbl (Nat.not_le.mpr hbl) G.2.2 (i := nI (i + 1)) (vp_in_nI (n := i + 1) (N := L) (by omega) (by omega)) dL_law_2032 ?_
  refine lv_to (y := xs (i + 1)) (congrArg xs (nI_clamp (by omega))) ?_
  refine lv_aload_n hx hb dL_law_2033 rfl (lv_at hl 5 rfl) ?_
  refine lv_iload hx hb dL_law_2034 (lv_at hl 0 rfl) ?_
  refine lv_iconst (v := 2) hx hb dL_law_2036 (by decide) ?_
  refine lv_iadd hx hb dL_law_2037 ?_
  refine lv_to (y := nI (i + 2)) (nI_add i 2) ?_
  refine va_sld hx hb hX0 hbl (Nat.not_le.mpr hbl) G.2.2 (i := nI (i + 2)) (vp_in_nI (n := i + 2) (N := L) (by omega) (by omega)) dL_law_2038 ?_
  refine lv_to (y := xs (i + 2)) (congrArg xs (nI_clamp (by omega))) ?_
  have kb : W p l e room_1 s m #[Value.ref b] below meth c H locs (19 + T.1 + j) (38467 + sg T + 6 * j) Q (F0 m 2047 ls [.int (vnz (xs (i + 2))), .int (xs (i + 1)), .ref (ad 0)]) := by
    refine lv_aload_n hx hb dL_law_2047 rfl (lv_at hl 2 rfl) ?_
    obtain ⟨⟨k1, r1, T1⟩, hg, hc⟩ := cs_X11_mute T 0 (xs (i + 1)) (vnz (xs (i + 2))) hV (by decide +kernel) (vnz_r _)
    have hV1 : IV aR0 1586 aK1 aK2 T1 := hc.1.1
    have hg1 := s_X11_mute hg
    have hg2 := sg_le hg1
    have hg3 := hg1.1
    have hk := hV1.2.2.2.2.2.2
    have hrc1 := hg1.2.2 hrc
    have hr0 := a_room
    refine l_v (h0 := s.heap.size) (As := [.ref (ad 0), .int (xs (i + 1)), .int (vnz (xs (i + 2))), .ref aj]) (rest := []) E G hA hX hN (fun _ h => h) hTS hml (v_mute l hst D s.heap.size ad T 0 (xs (i + 1)) (vnz (xs (i + 2))) aj f hg hrc h0T h0s) (vx_cwSW 4 hts (glA (L := [Cond.methodLink RL 369 yL_mute, Cond.static yL_mute, Cond.initialized RL]) (gl_in [(7, 120), (7, 121), (1, 0)] (by decide +kernel) (by decide +kernel)) ⟨(t_of [Cond.codeWith yL_mute cL_mute 5 (some .int) [(0, 17, 20, 21), (0, 17, 24, 13)]] [(7, 122)] (by decide +kernel) _ List.mem_cons_self), List.all_eq_true.mp (by decide +kernel : [Cond.codeWith yL_mute cL_mute 5 (some .int) [(0, 17, 20, 21), (0, 17, 24, 13)]].all goodWord = true) _ List.mem_cons_self⟩) rfl rfl rfl (by decide +kernel) ⟨Nat.le_of_ble_eq_true rfl, Nat.le_of_ble_eq_true rfl⟩) rfl hl.1 rfl (lv_room (Nat.le_of_ble_eq_true rfl)) dL_law_2048 ⟨by show _ ≤ 601024; omega, by show _ ≤ 7293034; omega⟩ ?_
    intro ad2 H locs had G
    rw [← had 0 h0T] at hl
    refine lv_istore (lv' := [(6, .int (vck 1 2 0 k1)), (5, .int (nI i)), (4, .ref ae), (3, .ref aj), (2, .ref (am 0)), (1, .ref (ad2 0)), (0, .ref b)]) hx hb dL_law_2051 hl (by decide) rfl (fun ls hl => ?_)
    refine lv_aload_n hx hb dL_law_2053 rfl (lv_at hl 4 rfl) ?_
    refine lv_aload_n hx hb dL_law_2054 rfl (lv_at hl 6 rfl) ?_
    refine lv_iload hx hb dL_law_2055 (lv_at hl 1 rfl) ?_
    refine lv_iconst (v := 1) hx hb dL_law_2057 (by decide) ?_
    refine lv_iadd hx hb dL_law_2058 ?_
    refine lv_to (y := nI (i + 1)) (nI_add i 1) ?_
    refine va_sld hx hb hX0 hbl (Nat.not_le.mpr hbl) G.2.2 (i := nI (i + 1)) (vp_in_nI (n := i + 1) (N := L) (by omega) (by omega)) dL_law_2059 ?_
    refine lv_to (y := xs (i + 1)) (congrArg xs (nI_clamp (by omega))) ?_
    refine lv_aload_n hx hb dL_law_2060 rfl (lv_at hl 6 rfl) ?_
    refine lv_iload hx hb dL_law_2061 (lv_at hl 1 rfl) ?_
    refine lv_iconst (v := 2) hx hb dL_law_2063 (by decide) ?_
    refine lv_iadd hx hb dL_law_2064 ?_
    refine lv_to (y := nI (i + 2)) (nI_add i 2) ?_
    refine va_sld hx hb hX0 hbl (Nat.not_le.mpr hbl) G.2.2 (i := nI (i + 2)) (vp_in_nI (n := i + 2) (N := L) (by omega) (by omega)) dL_law_2065 ?_
    refine lv_to (y := xs (i + 2)) (congrArg xs (nI_clamp (by omega))) ?_
    have kb : W p l e room_1 s m #[Value.ref b] below meth c H locs (19 + T.1 + j + (T1.1 - T.1 + 1)) (38467 + sg T + 6 * j + (sg T1 - sg T + 6)) Q (F0 m 2074 ls [.int (vnz (xs (i + 2))), .int (xs (i + 1)), .ref (am 0)]) := by
      obtain ⟨⟨r2, S1⟩, hf, hj⟩ := sj_mute Sm (xs (i + 1)) (vnz (xs (i + 2))) hJ
      have hJ1 : JJ S1 := hj
      refine y_mi (As := [.int (xs (i + 1)), .int (vnz (xs (i + 2)))]) (rest := []) E G hA hX.2.2.2.2 hml (tr_mute l D cI cJ cZ am Sm (xs (i + 1)) (vnz (xs (i + 2))) hf) (cwV 2 hts (glM (L := [Cond.methodLink RL 372 yX12_mute, Cond.instanceMethod yX12_mute, Cond.selects RX12 yX12_mute yX12_mute, Cond.initialized RX12]) (gl_in [(10, 153), (10, 154), (10, 155), (1, 14)] (by decide +kernel) (by decide +kernel)) ⟨(t_of [Cond.code yX12_mute cX12_mute 3 (some .boolean)] [(10, 156)] (by decide +kernel) _ List.mem_cons_self), List.all_eq_true.mp (by decide +kernel : [Cond.code yX12_mute cX12_mute 3 (some .boolean)].all goodWord = true) _ List.mem_cons_self⟩) rfl rfl rfl (by decide +kernel) ⟨Nat.le_of_ble_eq_true rfl, Nat.le_of_ble_eq_true rfl⟩) rfl hl.1 rfl (lv_room (Nat.le_of_ble_eq_true rfl)) dL_law_2074 ⟨by show _ ≤ 601024; omega, by show _ ≤ 7293034; omega⟩ (fun H locs G => ?_)
      refine lv_istore (lv' := [(7, .int r2), (6, .int (vck 1 2 0 k1)), (5, .int (nI i)), (4, .ref ae), (3, .ref aj), (2, .ref (am 0)), (1, .ref (ad2 0)), (0, .ref b)]) hx hb dL_law_2077 hl (by decide) rfl (fun ls hl => ?_)
      refine lv_goto (tgt := 2439) hx hb dL_law_2079 (by decide) ?_
      have hl := lv_sub hl [2, 3, 4, 5, 6, 7] rfl
      refine W.widen (k := 19 + T1.1 + (j + 1)) (n := 38467 + sg T1 + 6 * (j + 1)) (by omega) (by omega) ?_
      exact kk ad2 (vfJ k1 f (vzb r1)) g H locs ls hg hf (had 0 h0T) hV1 hrc1 hJ1 G hl
    refine lv_if_eq (tgt := 2073) hx hb dL_law_2066 (by decide) (fun c1 => ?_) (fun c1 => ?_)
    · refine lv_iconst (v := 0) hx hb dL_law_2073 (by decide) ?_
      refine lv_to (y := vnz (xs (i + 2))) (if_pos c1).symm ?_
      exact kb
    · refine lv_iconst (v := 1) hx hb dL_law_2069 (by decide) ?_
      refine lv_to (y := vnz (xs (i + 2))) (if_neg c1).symm ?_
      refine lv_goto (tgt := 2074) hx hb dL_law_2070 (by decide) ?_
      exact kb
  refine lv_if_eq (tgt := 2046) hx hb dL_law_2039 (by decide) (fun c1 => ?_) (fun c1 => ?_)
  · refine lv_iconst (v := 0) hx hb dL_law_2046 (by decide) ?_
    refine lv_to (y := vnz (xs (i + 2))) (if_pos c1).symm ?_
    exact kb
  · refine lv_iconst (v := 1) hx hb dL_law_2042 (by decide) ?_
    refine lv_to (y := vnz (xs (i + 2))) (if_neg c1).symm ?_
    refine lv_goto (tgt := 2047) hx hb dL_law_2043 (by decide) ?_
    exact kb
set_option maxHeartbeats 4000000 in
set_option maxRecDepth 100000 in
theorem y_a54 {p : Program} {e : Env} {s : State} {m : MethodId} {below : List Frame} {meth : Method} {c : Code} (l : Launch) (hst : l.stackTraces = false) {b L : Nat} {xs : Nat → Int32} (hx : p.tables.exec = Jvm.exec) (hb : c.code = code) (hml : c.maxLocals = 9) (hown : s.vm.findClass RL = some m.cls) (hts : ∀ w ∈ lw_tbl, w.before #[Value.ref b] s = true) (hX0 : va_X b L xs s s.heap) (hbl : b < s.heap.size) (hX : xT (fun q => s.heap.size ≤ q) s) (hN : nC s) (hTS : sAll s.heap.size s) {D : va_G} {cI cJ cZ cMic cSrc cSt cAI cAJ cD : ClassId} (hK : va_K D vwCl (CT cI cJ cZ cMic cSrc cSt cAI cAJ ++ [(cD, .double)]) s) {Q : State → Prop} {i j : Nat} (hi : i + 6 ≤ L) (hL : L ≤ 3072) (hj : j < 512) {aj ae : Nat} {ad am : Nat → Nat} {T : AT} {Sm : MS} {f : Nat → Int64} {g : Nat → UInt64} {ls : Array Slot} {H : Heap} {locs : List Loc} (hV : IV aR0 1586 aK1 aK2 T) (hrc : RC T) (hJ : JJ Sm) (G : gL cI cJ cZ cMic cSrc cSt cAI cAJ D ad (fun q => s.heap.size ≤ q) s.heap H locs T (oJ aj cJ f :: oD ae cD g :: MW cI cJ cZ am Sm)) (hl : lv_has ls 9 [(5, .int (nI i)), (4, .ref ae), (3, .ref aj), (2, .ref (am 0)), (1, .ref (ad 0)), (0, .ref b)]) (kk : ∀ {k1 : Nat} {r1 : Int32} {T1 : AT} {r2 : Int32} {S1 : MS} (ad2 : Nat → Nat) (f1 : Nat → Int64) (g1 : Nat → UInt64) (H1 : Heap) (locs1 : List Loc) (ls1 : Array Slot), g_X11_setWeight T 0 (xs (i + 1)) (xs (i + 2)) = some (k1, r1, T1) → fr_setWeight Sm (xs (i + 1)) (xs (i + 2)) = some (r2, S1) → ad2 0 = ad 0 → IV aR0 1586 aK1 aK2 T1 → RC T1 → JJ S1 → gL cI cJ cZ cMic cSrc cSt cAI cAJ D ad2 (fun q => s.heap.size ≤ q) s.heap H1 locs1 T1 (oJ aj cJ f1 :: oD ae cD g1 :: MW cI cJ cZ am S1) → lv_has ls1 9 [(5, .int (nI i)), (4, .ref ae), (3, .ref aj), (2, .ref (am 0)), (1, .ref (ad2 0)), (0, .ref b)] → W p l e room_1 s m #[Value.ref b] below meth c H1 locs1 (19 + T1.1 + (j + 1)) (38467 + sg T1 + 6 * (j + 1)) Q (F0 m 2439 ls1 [])) : W p l e room_1 s m #[Value.ref b] below meth c H locs (19 + T.1 + j) (38467 + sg T + 6 * j) Q (F0 m 2082 ls []) := by
  have E : cE p c cL_law s m #[Value.ref b] lw_tbl D RL (CT cI cJ cZ cMic cSrc cSt cAI cAJ ++ [(cD, .double)]) := ⟨hx, hb, hts, hown, hK⟩
  have hA : ∀ q : Nat, s.heap.size ≤ q → s.heap.size ≤ q := fun _ h => h
  have h0T : 0 < T.1 := Nat.lt_of_lt_of_le (by decide) hV.1.2.2
  have h0s : T.2.1 0 = (11, 0) := hV.2.1 0 ⟨by decide, by decide +kernel, by decide +kernel⟩
  refine lv_aload_n hx hb dL_law_2082 rfl (lv_at hl 4 rfl) ?_
  refine lv_aload_n hx hb dL_law_2083 rfl (lv_at hl 5 rfl) ?_
  refine lv_iload hx hb dL_law_2084 (lv_at hl 0 rfl) ?_
  refine lv_iconst (v := 1) hx hb dL_law_2086 (by decide) ?_
  refine lv_iadd hx hb dL_law_2087 ?_
  refine lv_to (y := nI (i + 1)) (nI_add i 1) ?_
  refine va_sld hx hb hX0 hbl (Nat.not_le.mpr hbl) G.2.2 (i := nI (i + 1)) (vp_in_nI (n := i + 1) (N := L) (by omega) (by omega)) dL_law_2088 ?_
  refine lv_to (y := xs (i + 1)) (congrArg xs (nI_clamp (by omega))) ?_
  refine lv_aload_n hx hb dL_law_2089 rfl (lv_at hl 5 rfl) ?_
  refine lv_iload hx hb dL_law_2090 (lv_at hl 0 rfl) ?_
  refine lv_iconst (v := 2) hx hb dL_law_2092 (by decide) ?_
  refine lv_iadd hx hb dL_law_2093 ?_
  refine lv_to (y := nI (i + 2)) (nI_add i 2) ?_
  refine va_sld hx hb hX0 hbl (Nat.not_le.mpr hbl) G.2.2 (i := nI (i + 2)) (vp_in_nI (n := i + 2) (N := L) (by omega) (by omega)) dL_law_2094 ?_
  refine lv_to (y := xs (i + 2)) (congrArg xs (nI_clamp (by omega))) ?_
  refine lv_aload_n hx hb dL_law_2095 rfl (lv_at hl 2 rfl) ?_
  obtain ⟨⟨k1, r1, T1⟩, hg, hc⟩ := cs_X11_setWeight T 0 (xs (i + 1)) (xs (i + 2)) hV (by decide +kernel)
  have hV1 : IV aR0 1586 aK1 aK2 T1 := hc.1.1
  have hg1 := s_X11_setWeight hg
  have hg2 := sg_le hg1
  have hg3 := hg1.1
  have hk := hV1.2.2.2.2.2.2
  have hrc1 := hg1.2.2 hrc
  have hr0 := a_room
  refine l_v (h0 := s.heap.size) (As := [.ref (ad 0), .int (xs (i + 1)), .int (xs (i + 2)), .ref aj]) (rest := []) E G hA hX hN (fun _ h => h) hTS hml (v_setWeight l hst D s.heap.size ad T 0 (xs (i + 1)) (xs (i + 2)) aj f hg hrc h0T h0s) (vx_cwSW 4 hts (glA (L := [Cond.methodLink RL 373 yL_setWeight, Cond.static yL_setWeight, Cond.initialized RL]) (gl_in [(7, 131), (7, 132), (1, 0)] (by decide +kernel) (by decide +kernel)) ⟨(t_of [Cond.codeWith yL_setWeight cL_setWeight 5 (some .int) [(0, 10, 13, 21), (0, 10, 17, 13), (0, 10, 21, 15)]] [(7, 133)] (by decide +kernel) _ List.mem_cons_self), List.all_eq_true.mp (by decide +kernel : [Cond.codeWith yL_setWeight cL_setWeight 5 (some .int) [(0, 10, 13, 21), (0, 10, 17, 13), (0, 10, 21, 15)]].all goodWord = true) _ List.mem_cons_self⟩) rfl rfl rfl (by decide +kernel) ⟨Nat.le_of_ble_eq_true rfl, Nat.le_of_ble_eq_true rfl⟩) rfl hl.1 rfl (lv_room (Nat.le_of_ble_eq_true rfl)) dL_law_2096 ⟨by show _ ≤ 601024; omega, by show _ ≤ 7293034; omega⟩ ?_
  intro ad2 H locs had G
  rw [← had 0 h0T] at hl
  refine lv_istore (lv' := [(6, .int (vck 1 2 3 k1)), (5, .int (nI i)), (4, .ref ae), (3, .ref aj), (2, .ref (am 0)), (1, .ref (ad2 0)), (0, .ref b)]) hx hb dL_law_2099 hl (by decide) rfl (fun ls hl => ?_)
  refine lv_aload_n hx hb dL_law_2101 rfl (lv_at hl 4 rfl) ?_
  refine lv_aload_n hx hb dL_law_2102 rfl (lv_at hl 6 rfl) ?_
  refine lv_iload hx hb dL_law_2103 (lv_at hl 1 rfl) ?_
  refine lv_iconst (v := 1) hx hb dL_law_2105 (by decide) ?_
  refine lv_iadd hx hb dL_law_2106 ?_
  refine lv_to (y := nI (i + 1)) (nI_add i 1) ?_
  refine va_sld hx hb hX0 hbl (Nat.not_le.mpr hbl) G.2.2 (i := nI (i + 1)) (vp_in_nI (n := i + 1) (N := L) (by omega) (by omega)) dL_law_2107 ?_
  refine lv_to (y := xs (i + 1)) (congrArg xs (nI_clamp (by omega))) ?_
  refine lv_aload_n hx hb dL_law_2108 rfl (lv_at hl 6 rfl) ?_
  refine lv_iload hx hb dL_law_2109 (lv_at hl 1 rfl) ?_
  refine lv_iconst (v := 2) hx hb dL_law_2111 (by decide) ?_
  refine lv_iadd hx hb dL_law_2112 ?_
  refine lv_to (y := nI (i + 2)) (nI_add i 2) ?_
  refine va_sld hx hb hX0 hbl (Nat.not_le.mpr hbl) G.2.2 (i := nI (i + 2)) (vp_in_nI (n := i + 2) (N := L) (by omega) (by omega)) dL_law_2113 ?_
  refine lv_to (y := xs (i + 2)) (congrArg xs (nI_clamp (by omega))) ?_
  obtain ⟨⟨r2, S1⟩, hf, hj⟩ := sj_setWeight Sm (xs (i + 1)) (xs (i + 2)) hJ
  have hJ1 : JJ S1 := hj
  refine y_mi (As := [.int (xs (i + 1)), .int (xs (i + 2))]) (rest := []) E G hA hX.2.2.2.2 hml (tr_setWeight l D cI cJ cZ am Sm (xs (i + 1)) (xs (i + 2)) hf) (cwV 2 hts (glM (L := [Cond.methodLink RL 375 yX12_setWeight, Cond.instanceMethod yX12_setWeight, Cond.selects RX12 yX12_setWeight yX12_setWeight, Cond.initialized RX12]) (gl_in [(10, 165), (10, 166), (10, 167), (1, 14)] (by decide +kernel) (by decide +kernel)) ⟨(t_of [Cond.code yX12_setWeight cX12_setWeight 3 (some .int)] [(10, 168)] (by decide +kernel) _ List.mem_cons_self), List.all_eq_true.mp (by decide +kernel : [Cond.code yX12_setWeight cX12_setWeight 3 (some .int)].all goodWord = true) _ List.mem_cons_self⟩) rfl rfl rfl (by decide +kernel) ⟨Nat.le_of_ble_eq_true rfl, Nat.le_of_ble_eq_true rfl⟩) rfl hl.1 rfl (lv_room (Nat.le_of_ble_eq_true rfl)) dL_law_2114 ⟨by show _ ≤ 601024; omega, by show _ ≤ 7293034; omega⟩ (fun H locs G => ?_)
  refine lv_istore (lv' := [(7, .int r2), (6, .int (vck 1 2 3 k1)), (5, .int (nI i)), (4, .ref ae), (3, .ref aj), (2, .ref (am 0)), (1, .ref (ad2 0)), (0, .ref b)]) hx hb dL_law_2117 hl (by decide) rfl (fun ls hl => ?_)
  refine lv_goto (tgt := 2439) hx hb dL_law_2119 (by decide) ?_
  have hl := lv_sub hl [2, 3, 4, 5, 6, 7] rfl
  refine W.widen (k := 19 + T1.1 + (j + 1)) (n := 38467 + sg T1 + 6 * (j + 1)) (by omega) (by omega) ?_
  exact kk ad2 (vfJ k1 f r1.toInt64) g H locs ls hg hf (had 0 h0T) hV1 hrc1 hJ1 G hl
set_option maxHeartbeats 4000000 in
set_option maxRecDepth 100000 in
theorem y_a55 {p : Program} {e : Env} {s : State} {m : MethodId} {below : List Frame} {meth : Method} {c : Code} (l : Launch) (hst : l.stackTraces = false) {b L : Nat} {xs : Nat → Int32} (hx : p.tables.exec = Jvm.exec) (hb : c.code = code) (hml : c.maxLocals = 9) (hown : s.vm.findClass RL = some m.cls) (hts : ∀ w ∈ lw_tbl, w.before #[Value.ref b] s = true) (hX0 : va_X b L xs s s.heap) (hbl : b < s.heap.size) (hX : xT (fun q => s.heap.size ≤ q) s) (hN : nC s) (hTS : sAll s.heap.size s) {D : va_G} {cI cJ cZ cMic cSrc cSt cAI cAJ cD : ClassId} (hK : va_K D vwCl (CT cI cJ cZ cMic cSrc cSt cAI cAJ ++ [(cD, .double)]) s) {Q : State → Prop} {i j : Nat} (hi : i + 6 ≤ L) (hL : L ≤ 3072) (hj : j < 512) {aj ae : Nat} {ad am : Nat → Nat} {T : AT} {Sm : MS} {f : Nat → Int64} {g : Nat → UInt64} {ls : Array Slot} {H : Heap} {locs : List Loc} (hV : IV aR0 1586 aK1 aK2 T) (hrc : RC T) (hJ : JJ Sm) (G : gL cI cJ cZ cMic cSrc cSt cAI cAJ D ad (fun q => s.heap.size ≤ q) s.heap H locs T (oJ aj cJ f :: oD ae cD g :: MW cI cJ cZ am Sm)) (hl : lv_has ls 9 [(5, .int (nI i)), (4, .ref ae), (3, .ref aj), (2, .ref (am 0)), (1, .ref (ad 0)), (0, .ref b)]) (kk : ∀ {k1 : Nat} {r1 : Int32} {T1 : AT} {r2 : Int32} {S1 : MS} (ad2 : Nat → Nat) (f1 : Nat → Int64) (g1 : Nat → UInt64) (H1 : Heap) (locs1 : List Loc) (ls1 : Array Slot), g_X11_setOn T 0 (xs (i + 1)) (vnz (xs (i + 2))) = some (k1, r1, T1) → fr_setOn Sm (xs (i + 1)) (vnz (xs (i + 2))) = some (r2, S1) → ad2 0 = ad 0 → IV aR0 1586 aK1 aK2 T1 → RC T1 → JJ S1 → gL cI cJ cZ cMic cSrc cSt cAI cAJ D ad2 (fun q => s.heap.size ≤ q) s.heap H1 locs1 T1 (oJ aj cJ f1 :: oD ae cD g1 :: MW cI cJ cZ am S1) → lv_has ls1 9 [(5, .int (nI i)), (4, .ref ae), (3, .ref aj), (2, .ref (am 0)), (1, .ref (ad2 0)), (0, .ref b)] → W p l e room_1 s m #[Value.ref b] below meth c H1 locs1 (19 + T1.1 + (j + 1)) (38467 + sg T1 + 6 * (j + 1)) Q (F0 m 2439 ls1 [])) : W p l e room_1 s m #[Value.ref b] below meth c H locs (19 + T.1 + j) (38467 + sg T + 6 * j) Q (F0 m 2122 ls []) := by
  have E : cE p c cL_law s m #[Value.ref b] lw_tbl D RL (CT cI cJ cZ cMic cSrc cSt cAI cAJ ++ [(cD, .double)]) := ⟨hx, hb, hts, hown, hK⟩
  have hA : ∀ q : Nat, s.heap.size ≤ q → s.heap.size ≤ q := fun _ h => h
  have h0T : 0 < T.1 := Nat.lt_of_lt_of_le (by decide) hV.1.2.2
  have h0s : T.2.1 0 = (11, 0) := hV.2.1 0 ⟨by decide, by decide +kernel, by decide +kernel⟩
  refine lv_aload_n hx hb dL_law_2122 rfl (lv_at hl 4 rfl) ?_
  refine lv_aload_n hx hb dL_law_2123 rfl (lv_at hl 5 rfl) ?_
  refine lv_iload hx hb dL_law_2124 (lv_at hl 0 rfl) ?_
  refine lv_iconst (v := 1) hx hb dL_law_2126 (by decide) ?_
  refine lv_iadd hx hb dL_law_2127 ?_
  refine lv_to (y := nI (i + 1)) (nI_add i 1) ?_
  refine va_sld hx hb hX0 hbl (Nat.not_le.mpr hbl) G.2.2 (i := nI (i + 1)) (vp_in_nI (n := i + 1) (N := L) (by omega) (by omega)) dL_law_2128 ?_
  refine lv_to (y := xs (i + 1)) (congrArg xs (nI_clamp (by omega))) ?_
  refine lv_aload_n hx hb dL_law_2129 rfl (lv_at hl 5 rfl) ?_
  refine lv_iload hx hb dL_law_2130 (lv_at hl 0 rfl) ?_
  refine lv_iconst (v := 2) hx hb dL_law_2132 (by decide) ?_
  refine lv_iadd hx hb dL_law_2133 ?_
  refine lv_to (y := nI (i + 2)) (nI_add i 2) ?_
  refine va_sld hx hb hX0 hbl (Nat.not_le.mpr hbl) G.2.2 (i := nI (i + 2)) (vp_in_nI (n := i + 2) (N := L) (by omega) (by omega)) dL_law_2134 ?_
  refine lv_to (y := xs (i + 2)) (congrArg xs (nI_clamp (by omega))) ?_
  have kb : W p l e room_1 s m #[Value.ref b] below meth c H locs (19 + T.1 + j) (38467 + sg T + 6 * j) Q (F0 m 2143 ls [.int (vnz (xs (i + 2))), .int (xs (i + 1)), .ref (ad 0)]) := by
    refine lv_aload_n hx hb dL_law_2143 rfl (lv_at hl 2 rfl) ?_
    obtain ⟨⟨k1, r1, T1⟩, hg, hc⟩ := cs_X11_setOn T 0 (xs (i + 1)) (vnz (xs (i + 2))) hV (by decide +kernel) (vnz_r _)
    have hV1 : IV aR0 1586 aK1 aK2 T1 := hc.1.1
    have hg1 := s_X11_setOn hg
    have hg2 := sg_le hg1
    have hg3 := hg1.1
    have hk := hV1.2.2.2.2.2.2
    have hrc1 := hg1.2.2 hrc
    have hr0 := a_room
    refine l_v (h0 := s.heap.size) (As := [.ref (ad 0), .int (xs (i + 1)), .int (vnz (xs (i + 2))), .ref aj]) (rest := []) E G hA hX hN (fun _ h => h) hTS hml (v_setOn l hst D s.heap.size ad T 0 (xs (i + 1)) (vnz (xs (i + 2))) aj f hg hrc h0T h0s) (vx_cwSW 4 hts (glA (L := [Cond.methodLink RL 376 yL_setOn, Cond.static yL_setOn, Cond.initialized RL]) (gl_in [(7, 138), (7, 139), (1, 0)] (by decide +kernel) (by decide +kernel)) ⟨(t_of [Cond.codeWith yL_setOn cL_setOn 5 (some .int) [(0, 17, 20, 21), (0, 17, 24, 13)]] [(7, 140)] (by decide +kernel) _ List.mem_cons_self), List.all_eq_true.mp (by decide +kernel : [Cond.codeWith yL_setOn cL_setOn 5 (some .int) [(0, 17, 20, 21), (0, 17, 24, 13)]].all goodWord = true) _ List.mem_cons_self⟩) rfl rfl rfl (by decide +kernel) ⟨Nat.le_of_ble_eq_true rfl, Nat.le_of_ble_eq_true rfl⟩) rfl hl.1 rfl (lv_room (Nat.le_of_ble_eq_true rfl)) dL_law_2144 ⟨by show _ ≤ 601024; omega, by show _ ≤ 7293034; omega⟩ ?_
    intro ad2 H locs had G
    rw [← had 0 h0T] at hl
    refine lv_istore (lv' := [(6, .int (vck 1 2 0 k1)), (5, .int (nI i)), (4, .ref ae), (3, .ref aj), (2, .ref (am 0)), (1, .ref (ad2 0)), (0, .ref b)]) hx hb dL_law_2147 hl (by decide) rfl (fun ls hl => ?_)
    refine lv_aload_n hx hb dL_law_2149 rfl (lv_at hl 4 rfl) ?_
    refine lv_aload_n hx hb dL_law_2150 rfl (lv_at hl 6 rfl) ?_
    refine lv_iload hx hb dL_law_2151 (lv_at hl 1 rfl) ?_
    refine lv_iconst (v := 1) hx hb dL_law_2153 (by decide) ?_
    refine lv_iadd hx hb dL_law_2154 ?_
    refine lv_to (y := nI (i + 1)) (nI_add i 1) ?_
    refine va_sld hx hb hX0 hbl (Nat.not_le.mpr hbl) G.2.2 (i := nI (i + 1)) (vp_in_nI (n := i + 1) (N := L) (by omega) (by omega)) dL_law_2155 ?_
    refine lv_to (y := xs (i + 1)) (congrArg xs (nI_clamp (by omega))) ?_
    refine lv_aload_n hx hb dL_law_2156 rfl (lv_at hl 6 rfl) ?_
    refine lv_iload hx hb dL_law_2157 (lv_at hl 1 rfl) ?_
    refine lv_iconst (v := 2) hx hb dL_law_2159 (by decide) ?_
    refine lv_iadd hx hb dL_law_2160 ?_
    refine lv_to (y := nI (i + 2)) (nI_add i 2) ?_
    refine va_sld hx hb hX0 hbl (Nat.not_le.mpr hbl) G.2.2 (i := nI (i + 2)) (vp_in_nI (n := i + 2) (N := L) (by omega) (by omega)) dL_law_2161 ?_
    refine lv_to (y := xs (i + 2)) (congrArg xs (nI_clamp (by omega))) ?_
    have kb : W p l e room_1 s m #[Value.ref b] below meth c H locs (19 + T.1 + j + (T1.1 - T.1 + 1)) (38467 + sg T + 6 * j + (sg T1 - sg T + 6)) Q (F0 m 2170 ls [.int (vnz (xs (i + 2))), .int (xs (i + 1)), .ref (am 0)]) := by
      obtain ⟨⟨r2, S1⟩, hf, hj⟩ := sj_setOn Sm (xs (i + 1)) (vnz (xs (i + 2))) hJ
      have hJ1 : JJ S1 := hj
      refine y_mi (As := [.int (xs (i + 1)), .int (vnz (xs (i + 2)))]) (rest := []) E G hA hX.2.2.2.2 hml (tr_setOn l D cI cJ cZ am Sm (xs (i + 1)) (vnz (xs (i + 2))) hf) (cwV 2 hts (glM (L := [Cond.methodLink RL 378 yX12_setOn, Cond.instanceMethod yX12_setOn, Cond.selects RX12 yX12_setOn yX12_setOn, Cond.initialized RX12]) (gl_in [(10, 169), (10, 170), (10, 171), (1, 14)] (by decide +kernel) (by decide +kernel)) ⟨(t_of [Cond.code yX12_setOn cX12_setOn 4 (some .boolean)] [(10, 172)] (by decide +kernel) _ List.mem_cons_self), List.all_eq_true.mp (by decide +kernel : [Cond.code yX12_setOn cX12_setOn 4 (some .boolean)].all goodWord = true) _ List.mem_cons_self⟩) rfl rfl rfl (by decide +kernel) ⟨Nat.le_of_ble_eq_true rfl, Nat.le_of_ble_eq_true rfl⟩) rfl hl.1 rfl (lv_room (Nat.le_of_ble_eq_true rfl)) dL_law_2170 ⟨by show _ ≤ 601024; omega, by show _ ≤ 7293034; omega⟩ (fun H locs G => ?_)
      refine lv_istore (lv' := [(7, .int r2), (6, .int (vck 1 2 0 k1)), (5, .int (nI i)), (4, .ref ae), (3, .ref aj), (2, .ref (am 0)), (1, .ref (ad2 0)), (0, .ref b)]) hx hb dL_law_2173 hl (by decide) rfl (fun ls hl => ?_)
      refine lv_goto (tgt := 2439) hx hb dL_law_2175 (by decide) ?_
      have hl := lv_sub hl [2, 3, 4, 5, 6, 7] rfl
      refine W.widen (k := 19 + T1.1 + (j + 1)) (n := 38467 + sg T1 + 6 * (j + 1)) (by omega) (by omega) ?_
      exact kk ad2 (vfJ k1 f (vzb r1)) g H locs ls hg hf (had 0 h0T) hV1 hrc1 hJ1 G hl
    refine lv_if_eq (tgt := 2169) hx hb dL_law_2162 (by decide) (fun c1 => ?_) (fun c1 => ?_)
    · refine lv_iconst (v := 0) hx hb dL_law_2169 (by decide) ?_
      refine lv_to (y := vnz (xs (i + 2))) (if_pos c1).symm ?_
      exact kb
    · refine lv_iconst (v := 1) hx hb dL_law_2165 (by decide) ?_
      refine lv_to (y := vnz (xs (i + 2))) (if_neg c1).symm ?_
      refine lv_goto (tgt := 2170) hx hb dL_law_2166 (by decide) ?_
      exact kb
  refine lv_if_eq (tgt := 2142) hx hb dL_law_2135 (by decide) (fun c1 => ?_) (fun c1 => ?_)
  · refine lv_iconst (v := 0) hx hb dL_law_2142 (by decide) ?_
    refine lv_to (y := vnz (xs (i + 2))) (if_pos c1).symm ?_
    exact kb
  · refine lv_iconst (v := 1) hx hb dL_law_2138 (by decide) ?_
    refine lv_to (y := vnz (xs (i + 2))) (if_neg c1).symm ?_
    refine lv_goto (tgt := 2143) hx hb dL_law_2139 (by decide) ?_
    exact kb
end
section
/-! 17h.arm7.lean.txt -/
theorem dL_law_2178 : decode cL_law 2178 = .ok (.aload_n 1, 1) := de_43 (lb_136 (j := 2) (b := 43) rfl)
theorem dL_law_2179 : decode cL_law 2179 = .ok (.aload_n 0, 1) := de_42 (lb_136 (j := 3) (b := 42) rfl)
theorem dL_law_2180 : decode cL_law 2180 = .ok (.iload 5, 2) := de_21 (lb_136 (j := 4) (b := 21) rfl) (lb_136 (j := 5) (b := 5) rfl) rfl
theorem dL_law_2182 : decode cL_law 2182 = .ok (.iconst 1, 1) := de_4 (lb_136 (j := 6) (b := 4) rfl)
theorem dL_law_2183 : decode cL_law 2183 = .ok (.iadd, 1) := de_96 (lb_136 (j := 7) (b := 96) rfl)
theorem dL_law_2184 : decode cL_law 2184 = .ok (.iaload, 1) := de_46 (lb_136 (j := 8) (b := 46) rfl)
theorem dL_law_2185 : decode cL_law 2185 = .ok (.aload_n 0, 1) := de_42 (lb_136 (j := 9) (b := 42) rfl)
theorem dL_law_2186 : decode cL_law 2186 = .ok (.iload 5, 2) := de_21 (lb_136 (j := 10) (b := 21) rfl) (lb_136 (j := 11) (b := 5) rfl) rfl
theorem dL_law_2188 : decode cL_law 2188 = .ok (.iconst 2, 1) := de_5 (lb_136 (j := 12) (b := 5) rfl)
theorem dL_law_2189 : decode cL_law 2189 = .ok (.iadd, 1) := de_96 (lb_136 (j := 13) (b := 96) rfl)
theorem dL_law_2190 : decode cL_law 2190 = .ok (.iaload, 1) := de_46 (lb_136 (j := 14) (b := 46) rfl)
theorem dL_law_2191 : decode cL_law 2191 = .ok (.aload_n 0, 1) := de_42 (lb_136 (j := 15) (b := 42) rfl)
theorem dL_law_2192 : decode cL_law 2192 = .ok (.iload 5, 2) := de_21 (lb_137 (j := 0) (b := 21) rfl) (lb_137 (j := 1) (b := 5) rfl) rfl
theorem dL_law_2194 : decode cL_law 2194 = .ok (.iconst 3, 1) := de_6 (lb_137 (j := 2) (b := 6) rfl)
theorem dL_law_2195 : decode cL_law 2195 = .ok (.iadd, 1) := de_96 (lb_137 (j := 3) (b := 96) rfl)
theorem dL_law_2196 : decode cL_law 2196 = .ok (.iaload, 1) := de_46 (lb_137 (j := 4) (b := 46) rfl)
theorem dL_law_2197 : decode cL_law 2197 = .ok (.aload_n 3, 1) := de_45 (lb_137 (j := 5) (b := 45) rfl)
theorem dL_law_2198 : decode cL_law 2198 = .ok (.invokestatic 379, 3) := de_184 (lb_137 (j := 6) (b := 184) rfl) (lb_137 (j := 7) (b := 1) rfl) (lb_137 (j := 8) (b := 123) rfl) rfl
theorem dL_law_2201 : decode cL_law 2201 = .ok (.istore 6, 2) := de_54 (lb_137 (j := 9) (b := 54) rfl) (lb_137 (j := 10) (b := 6) rfl) rfl
theorem dL_law_2203 : decode cL_law 2203 = .ok (.aload_n 2, 1) := de_44 (lb_137 (j := 11) (b := 44) rfl)
theorem dL_law_2204 : decode cL_law 2204 = .ok (.aload_n 0, 1) := de_42 (lb_137 (j := 12) (b := 42) rfl)
theorem dL_law_2205 : decode cL_law 2205 = .ok (.iload 5, 2) := de_21 (lb_137 (j := 13) (b := 21) rfl) (lb_137 (j := 14) (b := 5) rfl) rfl
theorem dL_law_2207 : decode cL_law 2207 = .ok (.iconst 1, 1) := de_4 (lb_137 (j := 15) (b := 4) rfl)
theorem dL_law_2208 : decode cL_law 2208 = .ok (.iadd, 1) := de_96 (lb_138 (j := 0) (b := 96) rfl)
theorem dL_law_2209 : decode cL_law 2209 = .ok (.iaload, 1) := de_46 (lb_138 (j := 1) (b := 46) rfl)
theorem dL_law_2210 : decode cL_law 2210 = .ok (.aload_n 0, 1) := de_42 (lb_138 (j := 2) (b := 42) rfl)
theorem dL_law_2211 : decode cL_law 2211 = .ok (.iload 5, 2) := de_21 (lb_138 (j := 3) (b := 21) rfl) (lb_138 (j := 4) (b := 5) rfl) rfl
theorem dL_law_2213 : decode cL_law 2213 = .ok (.iconst 2, 1) := de_5 (lb_138 (j := 5) (b := 5) rfl)
theorem dL_law_2214 : decode cL_law 2214 = .ok (.iadd, 1) := de_96 (lb_138 (j := 6) (b := 96) rfl)
theorem dL_law_2215 : decode cL_law 2215 = .ok (.iaload, 1) := de_46 (lb_138 (j := 7) (b := 46) rfl)
theorem dL_law_2216 : decode cL_law 2216 = .ok (.aload_n 0, 1) := de_42 (lb_138 (j := 8) (b := 42) rfl)
theorem dL_law_2217 : decode cL_law 2217 = .ok (.iload 5, 2) := de_21 (lb_138 (j := 9) (b := 21) rfl) (lb_138 (j := 10) (b := 5) rfl) rfl
theorem dL_law_2219 : decode cL_law 2219 = .ok (.iconst 3, 1) := de_6 (lb_138 (j := 11) (b := 6) rfl)
theorem dL_law_2220 : decode cL_law 2220 = .ok (.iadd, 1) := de_96 (lb_138 (j := 12) (b := 96) rfl)
theorem dL_law_2221 : decode cL_law 2221 = .ok (.iaload, 1) := de_46 (lb_138 (j := 13) (b := 46) rfl)
theorem dL_law_2222 : decode cL_law 2222 = .ok (.invokevirtual 381, 3) := de_182 (lb_138 (j := 14) (b := 182) rfl) (lb_138 (j := 15) (b := 1) rfl) (lb_139 (j := 0) (b := 125) rfl) rfl
theorem dL_law_2225 : decode cL_law 2225 = .ok (.istore 7, 2) := de_54 (lb_139 (j := 1) (b := 54) rfl) (lb_139 (j := 2) (b := 7) rfl) rfl
theorem dL_law_2227 : decode cL_law 2227 = .ok (.goto 212, 3) := de_167 (lb_139 (j := 3) (b := 167) rfl) (lb_139 (j := 4) (b := 0) rfl) (lb_139 (j := 5) (b := 212) rfl) (by decide +kernel)
theorem dL_law_2230 : decode cL_law 2230 = .ok (.aload_n 1, 1) := de_43 (lb_139 (j := 6) (b := 43) rfl)
theorem dL_law_2231 : decode cL_law 2231 = .ok (.aload_n 0, 1) := de_42 (lb_139 (j := 7) (b := 42) rfl)
theorem dL_law_2232 : decode cL_law 2232 = .ok (.iload 5, 2) := de_21 (lb_139 (j := 8) (b := 21) rfl) (lb_139 (j := 9) (b := 5) rfl) rfl
theorem dL_law_2234 : decode cL_law 2234 = .ok (.iconst 1, 1) := de_4 (lb_139 (j := 10) (b := 4) rfl)
theorem dL_law_2235 : decode cL_law 2235 = .ok (.iadd, 1) := de_96 (lb_139 (j := 11) (b := 96) rfl)
theorem dL_law_2236 : decode cL_law 2236 = .ok (.iaload, 1) := de_46 (lb_139 (j := 12) (b := 46) rfl)
theorem dL_law_2237 : decode cL_law 2237 = .ok (.aload_n 0, 1) := de_42 (lb_139 (j := 13) (b := 42) rfl)
theorem dL_law_2238 : decode cL_law 2238 = .ok (.iload 5, 2) := de_21 (lb_139 (j := 14) (b := 21) rfl) (lb_139 (j := 15) (b := 5) rfl) rfl
theorem dL_law_2240 : decode cL_law 2240 = .ok (.iconst 2, 1) := de_5 (lb_140 (j := 0) (b := 5) rfl)
theorem dL_law_2241 : decode cL_law 2241 = .ok (.iadd, 1) := de_96 (lb_140 (j := 1) (b := 96) rfl)
theorem dL_law_2242 : decode cL_law 2242 = .ok (.iaload, 1) := de_46 (lb_140 (j := 2) (b := 46) rfl)
theorem dL_law_2243 : decode cL_law 2243 = .ok (.aload_n 0, 1) := de_42 (lb_140 (j := 3) (b := 42) rfl)
theorem dL_law_2244 : decode cL_law 2244 = .ok (.iload 5, 2) := de_21 (lb_140 (j := 4) (b := 21) rfl) (lb_140 (j := 5) (b := 5) rfl) rfl
theorem dL_law_2246 : decode cL_law 2246 = .ok (.iconst 3, 1) := de_6 (lb_140 (j := 6) (b := 6) rfl)
theorem dL_law_2247 : decode cL_law 2247 = .ok (.iadd, 1) := de_96 (lb_140 (j := 7) (b := 96) rfl)
theorem dL_law_2248 : decode cL_law 2248 = .ok (.iaload, 1) := de_46 (lb_140 (j := 8) (b := 46) rfl)
theorem dL_law_2249 : decode cL_law 2249 = .ok (.aload_n 3, 1) := de_45 (lb_140 (j := 9) (b := 45) rfl)
theorem dL_law_2250 : decode cL_law 2250 = .ok (.invokestatic 382, 3) := de_184 (lb_140 (j := 10) (b := 184) rfl) (lb_140 (j := 11) (b := 1) rfl) (lb_140 (j := 12) (b := 126) rfl) rfl
theorem dL_law_2253 : decode cL_law 2253 = .ok (.istore 6, 2) := de_54 (lb_140 (j := 13) (b := 54) rfl) (lb_140 (j := 14) (b := 6) rfl) rfl
theorem dL_law_2255 : decode cL_law 2255 = .ok (.aload_n 2, 1) := de_44 (lb_140 (j := 15) (b := 44) rfl)
theorem dL_law_2256 : decode cL_law 2256 = .ok (.aload_n 0, 1) := de_42 (lb_141 (j := 0) (b := 42) rfl)
theorem dL_law_2257 : decode cL_law 2257 = .ok (.iload 5, 2) := de_21 (lb_141 (j := 1) (b := 21) rfl) (lb_141 (j := 2) (b := 5) rfl) rfl
theorem dL_law_2259 : decode cL_law 2259 = .ok (.iconst 1, 1) := de_4 (lb_141 (j := 3) (b := 4) rfl)
theorem dL_law_2260 : decode cL_law 2260 = .ok (.iadd, 1) := de_96 (lb_141 (j := 4) (b := 96) rfl)
theorem dL_law_2261 : decode cL_law 2261 = .ok (.iaload, 1) := de_46 (lb_141 (j := 5) (b := 46) rfl)
theorem dL_law_2262 : decode cL_law 2262 = .ok (.aload_n 0, 1) := de_42 (lb_141 (j := 6) (b := 42) rfl)
theorem dL_law_2263 : decode cL_law 2263 = .ok (.iload 5, 2) := de_21 (lb_141 (j := 7) (b := 21) rfl) (lb_141 (j := 8) (b := 5) rfl) rfl
theorem dL_law_2265 : decode cL_law 2265 = .ok (.iconst 2, 1) := de_5 (lb_141 (j := 9) (b := 5) rfl)
theorem dL_law_2266 : decode cL_law 2266 = .ok (.iadd, 1) := de_96 (lb_141 (j := 10) (b := 96) rfl)
theorem dL_law_2267 : decode cL_law 2267 = .ok (.iaload, 1) := de_46 (lb_141 (j := 11) (b := 46) rfl)
theorem dL_law_2268 : decode cL_law 2268 = .ok (.aload_n 0, 1) := de_42 (lb_141 (j := 12) (b := 42) rfl)
theorem dL_law_2269 : decode cL_law 2269 = .ok (.iload 5, 2) := de_21 (lb_141 (j := 13) (b := 21) rfl) (lb_141 (j := 14) (b := 5) rfl) rfl
theorem dL_law_2271 : decode cL_law 2271 = .ok (.iconst 3, 1) := de_6 (lb_141 (j := 15) (b := 6) rfl)
theorem dL_law_2272 : decode cL_law 2272 = .ok (.iadd, 1) := de_96 (lb_142 (j := 0) (b := 96) rfl)
theorem dL_law_2273 : decode cL_law 2273 = .ok (.iaload, 1) := de_46 (lb_142 (j := 1) (b := 46) rfl)
theorem dL_law_2274 : decode cL_law 2274 = .ok (.invokevirtual 384, 3) := de_182 (lb_142 (j := 2) (b := 182) rfl) (lb_142 (j := 3) (b := 1) rfl) (lb_142 (j := 4) (b := 128) rfl) rfl
theorem dL_law_2277 : decode cL_law 2277 = .ok (.istore 7, 2) := de_54 (lb_142 (j := 5) (b := 54) rfl) (lb_142 (j := 6) (b := 7) rfl) rfl
theorem dL_law_2279 : decode cL_law 2279 = .ok (.goto 160, 3) := de_167 (lb_142 (j := 7) (b := 167) rfl) (lb_142 (j := 8) (b := 0) rfl) (lb_142 (j := 9) (b := 160) rfl) (by decide +kernel)
theorem dL_law_2282 : decode cL_law 2282 = .ok (.aload_n 1, 1) := de_43 (lb_142 (j := 10) (b := 43) rfl)
theorem dL_law_2283 : decode cL_law 2283 = .ok (.aload_n 0, 1) := de_42 (lb_142 (j := 11) (b := 42) rfl)
theorem dL_law_2284 : decode cL_law 2284 = .ok (.iload 5, 2) := de_21 (lb_142 (j := 12) (b := 21) rfl) (lb_142 (j := 13) (b := 5) rfl) rfl
theorem dL_law_2286 : decode cL_law 2286 = .ok (.iconst 1, 1) := de_4 (lb_142 (j := 14) (b := 4) rfl)
theorem dL_law_2287 : decode cL_law 2287 = .ok (.iadd, 1) := de_96 (lb_142 (j := 15) (b := 96) rfl)
theorem dL_law_2288 : decode cL_law 2288 = .ok (.iaload, 1) := de_46 (lb_143 (j := 0) (b := 46) rfl)
theorem dL_law_2289 : decode cL_law 2289 = .ok (.aload_n 3, 1) := de_45 (lb_143 (j := 1) (b := 45) rfl)
theorem dL_law_2290 : decode cL_law 2290 = .ok (.invokestatic 385, 3) := de_184 (lb_143 (j := 2) (b := 184) rfl) (lb_143 (j := 3) (b := 1) rfl) (lb_143 (j := 4) (b := 129) rfl) rfl
theorem dL_law_2293 : decode cL_law 2293 = .ok (.istore 6, 2) := de_54 (lb_143 (j := 5) (b := 54) rfl) (lb_143 (j := 6) (b := 6) rfl) rfl
theorem dL_law_2295 : decode cL_law 2295 = .ok (.aload_n 2, 1) := de_44 (lb_143 (j := 7) (b := 44) rfl)
theorem dL_law_2296 : decode cL_law 2296 = .ok (.aload_n 0, 1) := de_42 (lb_143 (j := 8) (b := 42) rfl)
theorem dL_law_2297 : decode cL_law 2297 = .ok (.iload 5, 2) := de_21 (lb_143 (j := 9) (b := 21) rfl) (lb_143 (j := 10) (b := 5) rfl) rfl
theorem dL_law_2299 : decode cL_law 2299 = .ok (.iconst 1, 1) := de_4 (lb_143 (j := 11) (b := 4) rfl)
theorem dL_law_2300 : decode cL_law 2300 = .ok (.iadd, 1) := de_96 (lb_143 (j := 12) (b := 96) rfl)
theorem dL_law_2301 : decode cL_law 2301 = .ok (.iaload, 1) := de_46 (lb_143 (j := 13) (b := 46) rfl)
theorem dL_law_2302 : decode cL_law 2302 = .ok (.invokevirtual 387, 3) := de_182 (lb_143 (j := 14) (b := 182) rfl) (lb_143 (j := 15) (b := 1) rfl) (lb_144 (j := 0) (b := 131) rfl) rfl
theorem dL_law_2305 : decode cL_law 2305 = .ok (.istore 7, 2) := de_54 (lb_144 (j := 1) (b := 54) rfl) (lb_144 (j := 2) (b := 7) rfl) rfl
theorem dL_law_2307 : decode cL_law 2307 = .ok (.goto 132, 3) := de_167 (lb_144 (j := 3) (b := 167) rfl) (lb_144 (j := 4) (b := 0) rfl) (lb_144 (j := 5) (b := 132) rfl) (by decide +kernel)
theorem dL_law_2310 : decode cL_law 2310 = .ok (.aload_n 1, 1) := de_43 (lb_144 (j := 6) (b := 43) rfl)
theorem dL_law_2311 : decode cL_law 2311 = .ok (.aload_n 3, 1) := de_45 (lb_144 (j := 7) (b := 45) rfl)
theorem dL_law_2312 : decode cL_law 2312 = .ok (.invokestatic 388, 3) := de_184 (lb_144 (j := 8) (b := 184) rfl) (lb_144 (j := 9) (b := 1) rfl) (lb_144 (j := 10) (b := 132) rfl) rfl
theorem dL_law_2315 : decode cL_law 2315 = .ok (.istore 6, 2) := de_54 (lb_144 (j := 11) (b := 54) rfl) (lb_144 (j := 12) (b := 6) rfl) rfl
theorem dL_law_2317 : decode cL_law 2317 = .ok (.aload_n 2, 1) := de_44 (lb_144 (j := 13) (b := 44) rfl)
theorem dL_law_2318 : decode cL_law 2318 = .ok (.invokevirtual 390, 3) := de_182 (lb_144 (j := 14) (b := 182) rfl) (lb_144 (j := 15) (b := 1) rfl) (lb_145 (j := 0) (b := 134) rfl) rfl
theorem dL_law_2321 : decode cL_law 2321 = .ok (.istore 7, 2) := de_54 (lb_145 (j := 1) (b := 54) rfl) (lb_145 (j := 2) (b := 7) rfl) rfl
theorem dL_law_2323 : decode cL_law 2323 = .ok (.goto 116, 3) := de_167 (lb_145 (j := 3) (b := 167) rfl) (lb_145 (j := 4) (b := 0) rfl) (lb_145 (j := 5) (b := 116) rfl) (by decide +kernel)
theorem dL_law_2326 : decode cL_law 2326 = .ok (.aload_n 1, 1) := de_43 (lb_145 (j := 6) (b := 43) rfl)
theorem dL_law_2327 : decode cL_law 2327 = .ok (.aload_n 3, 1) := de_45 (lb_145 (j := 7) (b := 45) rfl)
theorem dL_law_2328 : decode cL_law 2328 = .ok (.invokestatic 391, 3) := de_184 (lb_145 (j := 8) (b := 184) rfl) (lb_145 (j := 9) (b := 1) rfl) (lb_145 (j := 10) (b := 135) rfl) rfl
theorem dL_law_2331 : decode cL_law 2331 = .ok (.istore 6, 2) := de_54 (lb_145 (j := 11) (b := 54) rfl) (lb_145 (j := 12) (b := 6) rfl) rfl
theorem dL_law_2333 : decode cL_law 2333 = .ok (.aload_n 2, 1) := de_44 (lb_145 (j := 13) (b := 44) rfl)
theorem dL_law_2334 : decode cL_law 2334 = .ok (.invokevirtual 393, 3) := de_182 (lb_145 (j := 14) (b := 182) rfl) (lb_145 (j := 15) (b := 1) rfl) (lb_146 (j := 0) (b := 137) rfl) rfl
theorem dL_law_2337 : decode cL_law 2337 = .ok (.istore 7, 2) := de_54 (lb_146 (j := 1) (b := 54) rfl) (lb_146 (j := 2) (b := 7) rfl) rfl
theorem dL_law_2339 : decode cL_law 2339 = .ok (.aload_n 2, 1) := de_44 (lb_146 (j := 3) (b := 44) rfl)
theorem dL_law_2340 : decode cL_law 2340 = .ok (.invokevirtual 394, 3) := de_182 (lb_146 (j := 4) (b := 182) rfl) (lb_146 (j := 5) (b := 1) rfl) (lb_146 (j := 6) (b := 138) rfl) rfl
theorem dL_law_2343 : decode cL_law 2343 = .ok (.iload 6, 2) := de_21 (lb_146 (j := 7) (b := 21) rfl) (lb_146 (j := 8) (b := 6) rfl) rfl
theorem dL_law_2345 : decode cL_law 2345 = .ok (.if_icmp .eq 5, 3) := de_159 (lb_146 (j := 9) (b := 159) rfl) (lb_146 (j := 10) (b := 0) rfl) (lb_146 (j := 11) (b := 5) rfl) (by decide +kernel)
theorem dL_law_2350 : decode cL_law 2350 = .ok (.iload 6, 2) := de_21 (lb_146 (j := 14) (b := 21) rfl) (lb_146 (j := 15) (b := 6) rfl) rfl
theorem dL_law_2352 : decode cL_law 2352 = .ok (.ifCond .ne 15, 3) := de_154 (lb_147 (j := 0) (b := 154) rfl) (lb_147 (j := 1) (b := 0) rfl) (lb_147 (j := 2) (b := 15) rfl) (by decide +kernel)
theorem dL_law_2355 : decode cL_law 2355 = .ok (.aload_n 3, 1) := de_45 (lb_147 (j := 3) (b := 45) rfl)
theorem dL_law_2356 : decode cL_law 2356 = .ok (.iconst 0, 1) := de_3 (lb_147 (j := 4) (b := 3) rfl)
theorem dL_law_2357 : decode cL_law 2357 = .ok (.laload, 1) := de_47 (lb_147 (j := 5) (b := 47) rfl)
theorem dL_law_2358 : decode cL_law 2358 = .ok (.iload 7, 2) := de_21 (lb_147 (j := 6) (b := 21) rfl) (lb_147 (j := 7) (b := 7) rfl) rfl
theorem dL_law_2360 : decode cL_law 2360 = .ok (.i2l, 1) := de_133 (lb_147 (j := 8) (b := 133) rfl)
theorem dL_law_2361 : decode cL_law 2361 = .ok (.lcmp, 1) := de_148 (lb_147 (j := 9) (b := 148) rfl)
theorem dL_law_2362 : decode cL_law 2362 = .ok (.ifCond .eq 5, 3) := de_153 (lb_147 (j := 10) (b := 153) rfl) (lb_147 (j := 11) (b := 0) rfl) (lb_147 (j := 12) (b := 5) rfl) (by decide +kernel)
theorem dL_law_2367 : decode cL_law 2367 = .ok (.goto 72, 3) := de_167 (lb_147 (j := 15) (b := 167) rfl) (lb_148 (j := 0) (b := 0) rfl) (lb_148 (j := 1) (b := 72) rfl) (by decide +kernel)
theorem dL_law_2370 : decode cL_law 2370 = .ok (.aload_n 1, 1) := de_43 (lb_148 (j := 2) (b := 43) rfl)
theorem dL_law_2371 : decode cL_law 2371 = .ok (.invokevirtual 397, 3) := de_182 (lb_148 (j := 3) (b := 182) rfl) (lb_148 (j := 4) (b := 1) rfl) (lb_148 (j := 5) (b := 141) rfl) rfl
theorem dL_law_2374 : decode cL_law 2374 = .ok (.pop, 1) := de_87 (lb_148 (j := 6) (b := 87) rfl)
theorem dL_law_2375 : decode cL_law 2375 = .ok (.aload_n 2, 1) := de_44 (lb_148 (j := 7) (b := 44) rfl)
theorem dL_law_2376 : decode cL_law 2376 = .ok (.invokevirtual 400, 3) := de_182 (lb_148 (j := 8) (b := 182) rfl) (lb_148 (j := 9) (b := 1) rfl) (lb_148 (j := 10) (b := 144) rfl) rfl
theorem dL_law_2379 : decode cL_law 2379 = .ok (.pop, 1) := de_87 (lb_148 (j := 11) (b := 87) rfl)
theorem dL_law_2380 : decode cL_law 2380 = .ok (.goto 59, 3) := de_167 (lb_148 (j := 12) (b := 167) rfl) (lb_148 (j := 13) (b := 0) rfl) (lb_148 (j := 14) (b := 59) rfl) (by decide +kernel)
theorem dL_law_2383 : decode cL_law 2383 = .ok (.aload_n 1, 1) := de_43 (lb_148 (j := 15) (b := 43) rfl)
theorem dL_law_2384 : decode cL_law 2384 = .ok (.aload_n 0, 1) := de_42 (lb_149 (j := 0) (b := 42) rfl)
theorem dL_law_2385 : decode cL_law 2385 = .ok (.iload 5, 2) := de_21 (lb_149 (j := 1) (b := 21) rfl) (lb_149 (j := 2) (b := 5) rfl) rfl
theorem dL_law_2387 : decode cL_law 2387 = .ok (.iconst 1, 1) := de_4 (lb_149 (j := 3) (b := 4) rfl)
theorem dL_law_2388 : decode cL_law 2388 = .ok (.iadd, 1) := de_96 (lb_149 (j := 4) (b := 96) rfl)
theorem dL_law_2389 : decode cL_law 2389 = .ok (.iaload, 1) := de_46 (lb_149 (j := 5) (b := 46) rfl)
theorem dL_law_2390 : decode cL_law 2390 = .ok (.aload_n 3, 1) := de_45 (lb_149 (j := 6) (b := 45) rfl)
theorem dL_law_2391 : decode cL_law 2391 = .ok (.invokestatic 401, 3) := de_184 (lb_149 (j := 7) (b := 184) rfl) (lb_149 (j := 8) (b := 1) rfl) (lb_149 (j := 9) (b := 145) rfl) rfl
theorem dL_law_2394 : decode cL_law 2394 = .ok (.istore 6, 2) := de_54 (lb_149 (j := 10) (b := 54) rfl) (lb_149 (j := 11) (b := 6) rfl) rfl
theorem dL_law_2396 : decode cL_law 2396 = .ok (.aload_n 2, 1) := de_44 (lb_149 (j := 12) (b := 44) rfl)
theorem dL_law_2397 : decode cL_law 2397 = .ok (.aload_n 0, 1) := de_42 (lb_149 (j := 13) (b := 42) rfl)
theorem dL_law_2398 : decode cL_law 2398 = .ok (.iload 5, 2) := de_21 (lb_149 (j := 14) (b := 21) rfl) (lb_149 (j := 15) (b := 5) rfl) rfl
theorem dL_law_2400 : decode cL_law 2400 = .ok (.iconst 1, 1) := de_4 (lb_150 (j := 0) (b := 4) rfl)
theorem dL_law_2401 : decode cL_law 2401 = .ok (.iadd, 1) := de_96 (lb_150 (j := 1) (b := 96) rfl)
theorem dL_law_2402 : decode cL_law 2402 = .ok (.iaload, 1) := de_46 (lb_150 (j := 2) (b := 46) rfl)
theorem dL_law_2403 : decode cL_law 2403 = .ok (.invokevirtual 403, 3) := de_182 (lb_150 (j := 3) (b := 182) rfl) (lb_150 (j := 4) (b := 1) rfl) (lb_150 (j := 5) (b := 147) rfl) rfl
theorem dL_law_2406 : decode cL_law 2406 = .ok (.istore 7, 2) := de_54 (lb_150 (j := 6) (b := 54) rfl) (lb_150 (j := 7) (b := 7) rfl) rfl
theorem dL_law_2408 : decode cL_law 2408 = .ok (.goto 31, 3) := de_167 (lb_150 (j := 8) (b := 167) rfl) (lb_150 (j := 9) (b := 0) rfl) (lb_150 (j := 10) (b := 31) rfl) (by decide +kernel)
theorem dL_law_2411 : decode cL_law 2411 = .ok (.aload_n 1, 1) := de_43 (lb_150 (j := 11) (b := 43) rfl)
theorem dL_law_2412 : decode cL_law 2412 = .ok (.aload_n 0, 1) := de_42 (lb_150 (j := 12) (b := 42) rfl)
theorem dL_law_2413 : decode cL_law 2413 = .ok (.iload 5, 2) := de_21 (lb_150 (j := 13) (b := 21) rfl) (lb_150 (j := 14) (b := 5) rfl) rfl
theorem dL_law_2415 : decode cL_law 2415 = .ok (.iconst 1, 1) := de_4 (lb_150 (j := 15) (b := 4) rfl)
theorem dL_law_2416 : decode cL_law 2416 = .ok (.iadd, 1) := de_96 (lb_151 (j := 0) (b := 96) rfl)
theorem dL_law_2417 : decode cL_law 2417 = .ok (.iaload, 1) := de_46 (lb_151 (j := 1) (b := 46) rfl)
theorem dL_law_2418 : decode cL_law 2418 = .ok (.aload_n 3, 1) := de_45 (lb_151 (j := 2) (b := 45) rfl)
theorem dL_law_2419 : decode cL_law 2419 = .ok (.invokestatic 404, 3) := de_184 (lb_151 (j := 3) (b := 184) rfl) (lb_151 (j := 4) (b := 1) rfl) (lb_151 (j := 5) (b := 148) rfl) rfl
theorem dL_law_2422 : decode cL_law 2422 = .ok (.istore 6, 2) := de_54 (lb_151 (j := 6) (b := 54) rfl) (lb_151 (j := 7) (b := 6) rfl) rfl
theorem dL_law_2424 : decode cL_law 2424 = .ok (.aload_n 2, 1) := de_44 (lb_151 (j := 8) (b := 44) rfl)
theorem dL_law_2425 : decode cL_law 2425 = .ok (.aload_n 0, 1) := de_42 (lb_151 (j := 9) (b := 42) rfl)
theorem dL_law_2426 : decode cL_law 2426 = .ok (.iload 5, 2) := de_21 (lb_151 (j := 10) (b := 21) rfl) (lb_151 (j := 11) (b := 5) rfl) rfl
theorem dL_law_2428 : decode cL_law 2428 = .ok (.iconst 1, 1) := de_4 (lb_151 (j := 12) (b := 4) rfl)
theorem dL_law_2429 : decode cL_law 2429 = .ok (.iadd, 1) := de_96 (lb_151 (j := 13) (b := 96) rfl)
theorem dL_law_2430 : decode cL_law 2430 = .ok (.iaload, 1) := de_46 (lb_151 (j := 14) (b := 46) rfl)
theorem dL_law_2431 : decode cL_law 2431 = .ok (.invokevirtual 406, 3) := de_182 (lb_151 (j := 15) (b := 182) rfl) (lb_152 (j := 0) (b := 1) rfl) (lb_152 (j := 1) (b := 150) rfl) rfl
theorem dL_law_2434 : decode cL_law 2434 = .ok (.istore 7, 2) := de_54 (lb_152 (j := 2) (b := 54) rfl) (lb_152 (j := 3) (b := 7) rfl) rfl
theorem dL_law_2436 : decode cL_law 2436 = .ok (.goto 3, 3) := de_167 (lb_152 (j := 4) (b := 167) rfl) (lb_152 (j := 5) (b := 0) rfl) (lb_152 (j := 6) (b := 3) rfl) (by decide +kernel)
set_option maxHeartbeats 4000000 in
set_option maxRecDepth 100000 in
theorem y_a56 {p : Program} {e : Env} {s : State} {m : MethodId} {below : List Frame} {meth : Method} {c : Code} (l : Launch) (hst : l.stackTraces = false) {b L : Nat} {xs : Nat → Int32} (hx : p.tables.exec = Jvm.exec) (hb : c.code = code) (hml : c.maxLocals = 9) (hown : s.vm.findClass RL = some m.cls) (hts : ∀ w ∈ lw_tbl, w.before #[Value.ref b] s = true) (hX0 : va_X b L xs s s.heap) (hbl : b < s.heap.size) (hX : xT (fun q => s.heap.size ≤ q) s) (hN : nC s) (hTS : sAll s.heap.size s) {D : va_G} {cI cJ cZ cMic cSrc cSt cAI cAJ cD : ClassId} (hK : va_K D vwCl (CT cI cJ cZ cMic cSrc cSt cAI cAJ ++ [(cD, .double)]) s) {Q : State → Prop} {i j : Nat} (hi : i + 6 ≤ L) (hL : L ≤ 3072) (hj : j < 512) {aj ae : Nat} {ad am : Nat → Nat} {T : AT} {Sm : MS} {f : Nat → Int64} {g : Nat → UInt64} {ls : Array Slot} {H : Heap} {locs : List Loc} (hV : IV aR0 1586 aK1 aK2 T) (hrc : RC T) (hJ : JJ Sm) (G : gL cI cJ cZ cMic cSrc cSt cAI cAJ D ad (fun q => s.heap.size ≤ q) s.heap H locs T (oJ aj cJ f :: oD ae cD g :: MW cI cJ cZ am Sm)) (hl : lv_has ls 9 [(5, .int (nI i)), (4, .ref ae), (3, .ref aj), (2, .ref (am 0)), (1, .ref (ad 0)), (0, .ref b)]) (kk : ∀ {k1 : Nat} {r1 : Int32} {T1 : AT} {r2 : Int32} {S1 : MS} (ad2 : Nat → Nat) (f1 : Nat → Int64) (g1 : Nat → UInt64) (H1 : Heap) (locs1 : List Loc) (ls1 : Array Slot), g_X11_moveSource T 0 (xs (i + 1)) (xs (i + 2)) (xs (i + 3)) = some (k1, r1, T1) → fr_moveSource Sm (xs (i + 1)) (xs (i + 2)) (xs (i + 3)) = some (r2, S1) → ad2 0 = ad 0 → IV aR0 1586 aK1 aK2 T1 → RC T1 → JJ S1 → gL cI cJ cZ cMic cSrc cSt cAI cAJ D ad2 (fun q => s.heap.size ≤ q) s.heap H1 locs1 T1 (oJ aj cJ f1 :: oD ae cD g1 :: MW cI cJ cZ am S1) → lv_has ls1 9 [(5, .int (nI i)), (4, .ref ae), (3, .ref aj), (2, .ref (am 0)), (1, .ref (ad2 0)), (0, .ref b)] → W p l e room_1 s m #[Value.ref b] below meth c H1 locs1 (19 + T1.1 + (j + 1)) (38467 + sg T1 + 6 * (j + 1)) Q (F0 m 2439 ls1 [])) : W p l e room_1 s m #[Value.ref b] below meth c H locs (19 + T.1 + j) (38467 + sg T + 6 * j) Q (F0 m 2178 ls []) := by
  have E : cE p c cL_law s m #[Value.ref b] lw_tbl D RL (CT cI cJ cZ cMic cSrc cSt cAI cAJ ++ [(cD, .double)]) := ⟨hx, hb, hts, hown, hK⟩
  have hA : ∀ q : Nat, s.heap.size ≤ q → s.heap.size ≤ q := fun _ h => h
  have h0T : 0 < T.1 := Nat.lt_of_lt_of_le (by decide) hV.1.2.2
  have h0s : T.2.1 0 = (11, 0) := hV.2.1 0 ⟨by decide, by decide +kernel, by decide +kernel⟩
  refine lv_aload_n hx hb dL_law_2178 rfl (lv_at hl 4 rfl) ?_
  refine lv_aload_n hx hb dL_law_2179 rfl (lv_at hl 5 rfl) ?_
  refine lv_iload hx hb dL_law_2180 (lv_at hl 0 rfl) ?_
  refine lv_iconst (v := 1) hx hb dL_law_2182 (by decide) ?_
  refine lv_iadd hx hb dL_law_2183 ?_
  refine lv_to (y := nI (i + 1)) (nI_add i 1) ?_
  refine va_sld hx hb hX0 hbl (Nat.not_le.mpr hbl) G.2.2 (i := nI (i + 1)) (vp_in_nI (n := i + 1) (N := L) (by omega) (by omega)) dL_law_2184 ?_
  refine lv_to (y := xs (i + 1)) (congrArg xs (nI_clamp (by omega))) ?_
  refine lv_aload_n hx hb dL_law_2185 rfl (lv_at hl 5 rfl) ?_
  refine lv_iload hx hb dL_law_2186 (lv_at hl 0 rfl) ?_
  refine lv_iconst (v := 2) hx hb dL_law_2188 (by decide) ?_
  refine lv_iadd hx hb dL_law_2189 ?_
  refine lv_to (y := nI (i + 2)) (nI_add i 2) ?_
  refine va_sld hx hb hX0 hbl (Nat.not_le.mpr hbl) G.2.2 (i := nI (i + 2)) (vp_in_nI (n := i + 2) (N := L) (by omega) (by omega)) dL_law_2190 ?_
  refine lv_to (y := xs (i + 2)) (congrArg xs (nI_clamp (by omega))) ?_
  refine lv_aload_n hx hb dL_law_2191 rfl (lv_at hl 5 rfl) ?_
  refine lv_iload hx hb dL_law_2192 (lv_at hl 0 rfl) ?_
  refine lv_iconst (v := 3) hx hb dL_law_2194 (by decide) ?_
  refine lv_iadd hx hb dL_law_2195 ?_
  refine lv_to (y := nI (i + 3)) (nI_add i 3) ?_
  refine va_sld hx hb hX0 hbl (Nat.not_le.mpr hbl) G.2.2 (i := nI (i + 3)) (vp_in_nI (n := i + 3) (N := L) (by omega) (by omega)) dL_law_2196 ?_
  refine lv_to (y := xs (i + 3)) (congrArg xs (nI_clamp (by omega))) ?_
  refine lv_aload_n hx hb dL_law_2197 rfl (lv_at hl 2 rfl) ?_
  obtain ⟨⟨k1, r1, T1⟩, hg, hc⟩ := cs_X11_moveSource T 0 (xs (i + 1)) (xs (i + 2)) (xs (i + 3)) hV (by decide +kernel)
  have hV1 : IV aR0 1586 aK1 aK2 T1 := hc.1.1
  have hg1 := s_X11_moveSource hg
  have hg2 := sg_le hg1
  have hg3 := hg1.1
  have hk := hV1.2.2.2.2.2.2
  have hrc1 := hg1.2.2 hrc
  have hr0 := a_room
  refine l_v (h0 := s.heap.size) (As := [.ref (ad 0), .int (xs (i + 1)), .int (xs (i + 2)), .int (xs (i + 3)), .ref aj]) (rest := []) E G hA hX hN (fun _ h => h) hTS hml (v_moveSource l hst D s.heap.size ad T 0 (xs (i + 1)) (xs (i + 2)) (xs (i + 3)) aj f hg hrc h0T h0s) (vx_cwSW 5 hts (glA (L := [Cond.methodLink RL 379 yL_moveSource, Cond.static yL_moveSource, Cond.initialized RL]) (gl_in [(7, 145), (7, 146), (1, 0)] (by decide +kernel) (by decide +kernel)) ⟨(t_of [Cond.codeWith yL_moveSource cL_moveSource 6 (some .int) [(0, 12, 15, 21), (0, 12, 19, 13), (0, 12, 23, 15)]] [(7, 147)] (by decide +kernel) _ List.mem_cons_self), List.all_eq_true.mp (by decide +kernel : [Cond.codeWith yL_moveSource cL_moveSource 6 (some .int) [(0, 12, 15, 21), (0, 12, 19, 13), (0, 12, 23, 15)]].all goodWord = true) _ List.mem_cons_self⟩) rfl rfl rfl (by decide +kernel) ⟨Nat.le_of_ble_eq_true rfl, Nat.le_of_ble_eq_true rfl⟩) rfl hl.1 rfl (lv_room (Nat.le_of_ble_eq_true rfl)) dL_law_2198 ⟨by show _ ≤ 601024; omega, by show _ ≤ 7293034; omega⟩ ?_
  intro ad2 H locs had G
  rw [← had 0 h0T] at hl
  refine lv_istore (lv' := [(6, .int (vck 1 2 3 k1)), (5, .int (nI i)), (4, .ref ae), (3, .ref aj), (2, .ref (am 0)), (1, .ref (ad2 0)), (0, .ref b)]) hx hb dL_law_2201 hl (by decide) rfl (fun ls hl => ?_)
  refine lv_aload_n hx hb dL_law_2203 rfl (lv_at hl 4 rfl) ?_
  refine lv_aload_n hx hb dL_law_2204 rfl (lv_at hl 6 rfl) ?_
  refine lv_iload hx hb dL_law_2205 (lv_at hl 1 rfl) ?_
  refine lv_iconst (v := 1) hx hb dL_law_2207 (by decide) ?_
  refine lv_iadd hx hb dL_law_2208 ?_
  refine lv_to (y := nI (i + 1)) (nI_add i 1) ?_
  refine va_sld hx hb hX0 hbl (Nat.not_le.mpr hbl) G.2.2 (i := nI (i + 1)) (vp_in_nI (n := i + 1) (N := L) (by omega) (by omega)) dL_law_2209 ?_
  refine lv_to (y := xs (i + 1)) (congrArg xs (nI_clamp (by omega))) ?_
  refine lv_aload_n hx hb dL_law_2210 rfl (lv_at hl 6 rfl) ?_
  refine lv_iload hx hb dL_law_2211 (lv_at hl 1 rfl) ?_
  refine lv_iconst (v := 2) hx hb dL_law_2213 (by decide) ?_
  refine lv_iadd hx hb dL_law_2214 ?_
  refine lv_to (y := nI (i + 2)) (nI_add i 2) ?_
  refine va_sld hx hb hX0 hbl (Nat.not_le.mpr hbl) G.2.2 (i := nI (i + 2)) (vp_in_nI (n := i + 2) (N := L) (by omega) (by omega)) dL_law_2215 ?_
  refine lv_to (y := xs (i + 2)) (congrArg xs (nI_clamp (by omega))) ?_
  refine lv_aload_n hx hb dL_law_2216 rfl (lv_at hl 6 rfl) ?_
  refine lv_iload hx hb dL_law_2217 (lv_at hl 1 rfl) ?_
  refine lv_iconst (v := 3) hx hb dL_law_2219 (by decide) ?_
  refine lv_iadd hx hb dL_law_2220 ?_
  refine lv_to (y := nI (i + 3)) (nI_add i 3) ?_
  refine va_sld hx hb hX0 hbl (Nat.not_le.mpr hbl) G.2.2 (i := nI (i + 3)) (vp_in_nI (n := i + 3) (N := L) (by omega) (by omega)) dL_law_2221 ?_
  refine lv_to (y := xs (i + 3)) (congrArg xs (nI_clamp (by omega))) ?_
  obtain ⟨⟨r2, S1⟩, hf, hj⟩ := sj_moveSource Sm (xs (i + 1)) (xs (i + 2)) (xs (i + 3)) hJ
  have hJ1 : JJ S1 := hj
  refine y_mi (As := [.int (xs (i + 1)), .int (xs (i + 2)), .int (xs (i + 3))]) (rest := []) E G hA hX.2.2.2.2 hml (tr_moveSource l D cI cJ cZ am Sm (xs (i + 1)) (xs (i + 2)) (xs (i + 3)) hf) (cwV 3 hts (glM (L := [Cond.methodLink RL 381 yX12_moveSource, Cond.instanceMethod yX12_moveSource, Cond.selects RX12 yX12_moveSource yX12_moveSource, Cond.initialized RX12]) (gl_in [(10, 173), (10, 174), (10, 175), (1, 14)] (by decide +kernel) (by decide +kernel)) ⟨(t_of [Cond.code yX12_moveSource cX12_moveSource 4 (some .int)] [(10, 176)] (by decide +kernel) _ List.mem_cons_self), List.all_eq_true.mp (by decide +kernel : [Cond.code yX12_moveSource cX12_moveSource 4 (some .int)].all goodWord = true) _ List.mem_cons_self⟩) rfl rfl rfl (by decide +kernel) ⟨Nat.le_of_ble_eq_true rfl, Nat.le_of_ble_eq_true rfl⟩) rfl hl.1 rfl (lv_room (Nat.le_of_ble_eq_true rfl)) dL_law_2222 ⟨by show _ ≤ 601024; omega, by show _ ≤ 7293034; omega⟩ (fun H locs G => ?_)
  refine lv_istore (lv' := [(7, .int r2), (6, .int (vck 1 2 3 k1)), (5, .int (nI i)), (4, .ref ae), (3, .ref aj), (2, .ref (am 0)), (1, .ref (ad2 0)), (0, .ref b)]) hx hb dL_law_2225 hl (by decide) rfl (fun ls hl => ?_)
  refine lv_goto (tgt := 2439) hx hb dL_law_2227 (by decide) ?_
  have hl := lv_sub hl [2, 3, 4, 5, 6, 7] rfl
  refine W.widen (k := 19 + T1.1 + (j + 1)) (n := 38467 + sg T1 + 6 * (j + 1)) (by omega) (by omega) ?_
  exact kk ad2 (vfJ k1 f r1.toInt64) g H locs ls hg hf (had 0 h0T) hV1 hrc1 hJ1 G hl
set_option maxHeartbeats 4000000 in
set_option maxRecDepth 100000 in
theorem y_a57 {p : Program} {e : Env} {s : State} {m : MethodId} {below : List Frame} {meth : Method} {c : Code} (l : Launch) (hst : l.stackTraces = false) {b L : Nat} {xs : Nat → Int32} (hx : p.tables.exec = Jvm.exec) (hb : c.code = code) (hml : c.maxLocals = 9) (hown : s.vm.findClass RL = some m.cls) (hts : ∀ w ∈ lw_tbl, w.before #[Value.ref b] s = true) (hX0 : va_X b L xs s s.heap) (hbl : b < s.heap.size) (hX : xT (fun q => s.heap.size ≤ q) s) (hN : nC s) (hTS : sAll s.heap.size s) {D : va_G} {cI cJ cZ cMic cSrc cSt cAI cAJ cD : ClassId} (hK : va_K D vwCl (CT cI cJ cZ cMic cSrc cSt cAI cAJ ++ [(cD, .double)]) s) {Q : State → Prop} {i j : Nat} (hi : i + 6 ≤ L) (hL : L ≤ 3072) (hj : j < 512) {aj ae : Nat} {ad am : Nat → Nat} {T : AT} {Sm : MS} {f : Nat → Int64} {g : Nat → UInt64} {ls : Array Slot} {H : Heap} {locs : List Loc} (hV : IV aR0 1586 aK1 aK2 T) (hrc : RC T) (hJ : JJ Sm) (G : gL cI cJ cZ cMic cSrc cSt cAI cAJ D ad (fun q => s.heap.size ≤ q) s.heap H locs T (oJ aj cJ f :: oD ae cD g :: MW cI cJ cZ am Sm)) (hl : lv_has ls 9 [(5, .int (nI i)), (4, .ref ae), (3, .ref aj), (2, .ref (am 0)), (1, .ref (ad 0)), (0, .ref b)]) (kk : ∀ {k1 : Nat} {r1 : Int32} {T1 : AT} {r2 : Int32} {S1 : MS} (ad2 : Nat → Nat) (f1 : Nat → Int64) (g1 : Nat → UInt64) (H1 : Heap) (locs1 : List Loc) (ls1 : Array Slot), g_X11_setVelocity T 0 (xs (i + 1)) (xs (i + 2)) (xs (i + 3)) = some (k1, r1, T1) → fr_setVelocity Sm (xs (i + 1)) (xs (i + 2)) (xs (i + 3)) = some (r2, S1) → ad2 0 = ad 0 → IV aR0 1586 aK1 aK2 T1 → RC T1 → JJ S1 → gL cI cJ cZ cMic cSrc cSt cAI cAJ D ad2 (fun q => s.heap.size ≤ q) s.heap H1 locs1 T1 (oJ aj cJ f1 :: oD ae cD g1 :: MW cI cJ cZ am S1) → lv_has ls1 9 [(5, .int (nI i)), (4, .ref ae), (3, .ref aj), (2, .ref (am 0)), (1, .ref (ad2 0)), (0, .ref b)] → W p l e room_1 s m #[Value.ref b] below meth c H1 locs1 (19 + T1.1 + (j + 1)) (38467 + sg T1 + 6 * (j + 1)) Q (F0 m 2439 ls1 [])) : W p l e room_1 s m #[Value.ref b] below meth c H locs (19 + T.1 + j) (38467 + sg T + 6 * j) Q (F0 m 2230 ls []) := by
  have E : cE p c cL_law s m #[Value.ref b] lw_tbl D RL (CT cI cJ cZ cMic cSrc cSt cAI cAJ ++ [(cD, .double)]) := ⟨hx, hb, hts, hown, hK⟩
  have hA : ∀ q : Nat, s.heap.size ≤ q → s.heap.size ≤ q := fun _ h => h
  have h0T : 0 < T.1 := Nat.lt_of_lt_of_le (by decide) hV.1.2.2
  have h0s : T.2.1 0 = (11, 0) := hV.2.1 0 ⟨by decide, by decide +kernel, by decide +kernel⟩
  refine lv_aload_n hx hb dL_law_2230 rfl (lv_at hl 4 rfl) ?_
  refine lv_aload_n hx hb dL_law_2231 rfl (lv_at hl 5 rfl) ?_
  refine lv_iload hx hb dL_law_2232 (lv_at hl 0 rfl) ?_
  refine lv_iconst (v := 1) hx hb dL_law_2234 (by decide) ?_
  refine lv_iadd hx hb dL_law_2235 ?_
  refine lv_to (y := nI (i + 1)) (nI_add i 1) ?_
  refine va_sld hx hb hX0 hbl (Nat.not_le.mpr hbl) G.2.2 (i := nI (i + 1)) (vp_in_nI (n := i + 1) (N := L) (by omega) (by omega)) dL_law_2236 ?_
  refine lv_to (y := xs (i + 1)) (congrArg xs (nI_clamp (by omega))) ?_
  refine lv_aload_n hx hb dL_law_2237 rfl (lv_at hl 5 rfl) ?_
  refine lv_iload hx hb dL_law_2238 (lv_at hl 0 rfl) ?_
  refine lv_iconst (v := 2) hx hb dL_law_2240 (by decide) ?_
  refine lv_iadd hx hb dL_law_2241 ?_
  refine lv_to (y := nI (i + 2)) (nI_add i 2) ?_
  refine va_sld hx hb hX0 hbl (Nat.not_le.mpr hbl) G.2.2 (i := nI (i + 2)) (vp_in_nI (n := i + 2) (N := L) (by omega) (by omega)) dL_law_2242 ?_
  refine lv_to (y := xs (i + 2)) (congrArg xs (nI_clamp (by omega))) ?_
  refine lv_aload_n hx hb dL_law_2243 rfl (lv_at hl 5 rfl) ?_
  refine lv_iload hx hb dL_law_2244 (lv_at hl 0 rfl) ?_
  refine lv_iconst (v := 3) hx hb dL_law_2246 (by decide) ?_
  refine lv_iadd hx hb dL_law_2247 ?_
  refine lv_to (y := nI (i + 3)) (nI_add i 3) ?_
  refine va_sld hx hb hX0 hbl (Nat.not_le.mpr hbl) G.2.2 (i := nI (i + 3)) (vp_in_nI (n := i + 3) (N := L) (by omega) (by omega)) dL_law_2248 ?_
  refine lv_to (y := xs (i + 3)) (congrArg xs (nI_clamp (by omega))) ?_
  refine lv_aload_n hx hb dL_law_2249 rfl (lv_at hl 2 rfl) ?_
  obtain ⟨⟨k1, r1, T1⟩, hg, hc⟩ := cs_X11_setVelocity T 0 (xs (i + 1)) (xs (i + 2)) (xs (i + 3)) hV (by decide +kernel)
  have hV1 : IV aR0 1586 aK1 aK2 T1 := hc.1.1
  have hg1 := s_X11_setVelocity hg
  have hg2 := sg_le hg1
  have hg3 := hg1.1
  have hk := hV1.2.2.2.2.2.2
  have hrc1 := hg1.2.2 hrc
  have hr0 := a_room
  refine l_v (h0 := s.heap.size) (As := [.ref (ad 0), .int (xs (i + 1)), .int (xs (i + 2)), .int (xs (i + 3)), .ref aj]) (rest := []) E G hA hX hN (fun _ h => h) hTS hml (v_setVelocity l hst D s.heap.size ad T 0 (xs (i + 1)) (xs (i + 2)) (xs (i + 3)) aj f hg hrc h0T h0s) (vx_cwSW 5 hts (glA (L := [Cond.methodLink RL 382 yL_setVelocity, Cond.static yL_setVelocity, Cond.initialized RL]) (gl_in [(7, 152), (7, 153), (1, 0)] (by decide +kernel) (by decide +kernel)) ⟨(t_of [Cond.codeWith yL_setVelocity cL_setVelocity 6 (some .int) [(0, 12, 15, 21), (0, 12, 19, 13), (0, 12, 23, 15)]] [(7, 154)] (by decide +kernel) _ List.mem_cons_self), List.all_eq_true.mp (by decide +kernel : [Cond.codeWith yL_setVelocity cL_setVelocity 6 (some .int) [(0, 12, 15, 21), (0, 12, 19, 13), (0, 12, 23, 15)]].all goodWord = true) _ List.mem_cons_self⟩) rfl rfl rfl (by decide +kernel) ⟨Nat.le_of_ble_eq_true rfl, Nat.le_of_ble_eq_true rfl⟩) rfl hl.1 rfl (lv_room (Nat.le_of_ble_eq_true rfl)) dL_law_2250 ⟨by show _ ≤ 601024; omega, by show _ ≤ 7293034; omega⟩ ?_
  intro ad2 H locs had G
  rw [← had 0 h0T] at hl
  refine lv_istore (lv' := [(6, .int (vck 1 2 3 k1)), (5, .int (nI i)), (4, .ref ae), (3, .ref aj), (2, .ref (am 0)), (1, .ref (ad2 0)), (0, .ref b)]) hx hb dL_law_2253 hl (by decide) rfl (fun ls hl => ?_)
  refine lv_aload_n hx hb dL_law_2255 rfl (lv_at hl 4 rfl) ?_
  refine lv_aload_n hx hb dL_law_2256 rfl (lv_at hl 6 rfl) ?_
  refine lv_iload hx hb dL_law_2257 (lv_at hl 1 rfl) ?_
  refine lv_iconst (v := 1) hx hb dL_law_2259 (by decide) ?_
  refine lv_iadd hx hb dL_law_2260 ?_
  refine lv_to (y := nI (i + 1)) (nI_add i 1) ?_
  refine va_sld hx hb hX0 hbl (Nat.not_le.mpr hbl) G.2.2 (i := nI (i + 1)) (vp_in_nI (n := i + 1) (N := L) (by omega) (by omega)) dL_law_2261 ?_
  refine lv_to (y := xs (i + 1)) (congrArg xs (nI_clamp (by omega))) ?_
  refine lv_aload_n hx hb dL_law_2262 rfl (lv_at hl 6 rfl) ?_
  refine lv_iload hx hb dL_law_2263 (lv_at hl 1 rfl) ?_
  refine lv_iconst (v := 2) hx hb dL_law_2265 (by decide) ?_
  refine lv_iadd hx hb dL_law_2266 ?_
  refine lv_to (y := nI (i + 2)) (nI_add i 2) ?_
  refine va_sld hx hb hX0 hbl (Nat.not_le.mpr hbl) G.2.2 (i := nI (i + 2)) (vp_in_nI (n := i + 2) (N := L) (by omega) (by omega)) dL_law_2267 ?_
  refine lv_to (y := xs (i + 2)) (congrArg xs (nI_clamp (by omega))) ?_
  refine lv_aload_n hx hb dL_law_2268 rfl (lv_at hl 6 rfl) ?_
  refine lv_iload hx hb dL_law_2269 (lv_at hl 1 rfl) ?_
  refine lv_iconst (v := 3) hx hb dL_law_2271 (by decide) ?_
  refine lv_iadd hx hb dL_law_2272 ?_
  refine lv_to (y := nI (i + 3)) (nI_add i 3) ?_
  refine va_sld hx hb hX0 hbl (Nat.not_le.mpr hbl) G.2.2 (i := nI (i + 3)) (vp_in_nI (n := i + 3) (N := L) (by omega) (by omega)) dL_law_2273 ?_
  refine lv_to (y := xs (i + 3)) (congrArg xs (nI_clamp (by omega))) ?_
  obtain ⟨⟨r2, S1⟩, hf, hj⟩ := sj_setVelocity Sm (xs (i + 1)) (xs (i + 2)) (xs (i + 3)) hJ
  have hJ1 : JJ S1 := hj
  refine y_mi (As := [.int (xs (i + 1)), .int (xs (i + 2)), .int (xs (i + 3))]) (rest := []) E G hA hX.2.2.2.2 hml (tr_setVelocity l D cI cJ cZ am Sm (xs (i + 1)) (xs (i + 2)) (xs (i + 3)) hf) (cwV 3 hts (glM (L := [Cond.methodLink RL 384 yX12_setVelocity, Cond.instanceMethod yX12_setVelocity, Cond.selects RX12 yX12_setVelocity yX12_setVelocity, Cond.initialized RX12]) (gl_in [(10, 181), (10, 182), (10, 183), (1, 14)] (by decide +kernel) (by decide +kernel)) ⟨(t_of [Cond.code yX12_setVelocity cX12_setVelocity 4 (some .int)] [(10, 184)] (by decide +kernel) _ List.mem_cons_self), List.all_eq_true.mp (by decide +kernel : [Cond.code yX12_setVelocity cX12_setVelocity 4 (some .int)].all goodWord = true) _ List.mem_cons_self⟩) rfl rfl rfl (by decide +kernel) ⟨Nat.le_of_ble_eq_true rfl, Nat.le_of_ble_eq_true rfl⟩) rfl hl.1 rfl (lv_room (Nat.le_of_ble_eq_true rfl)) dL_law_2274 ⟨by show _ ≤ 601024; omega, by show _ ≤ 7293034; omega⟩ (fun H locs G => ?_)
  refine lv_istore (lv' := [(7, .int r2), (6, .int (vck 1 2 3 k1)), (5, .int (nI i)), (4, .ref ae), (3, .ref aj), (2, .ref (am 0)), (1, .ref (ad2 0)), (0, .ref b)]) hx hb dL_law_2277 hl (by decide) rfl (fun ls hl => ?_)
  refine lv_goto (tgt := 2439) hx hb dL_law_2279 (by decide) ?_
  have hl := lv_sub hl [2, 3, 4, 5, 6, 7] rfl
  refine W.widen (k := 19 + T1.1 + (j + 1)) (n := 38467 + sg T1 + 6 * (j + 1)) (by omega) (by omega) ?_
  exact kk ad2 (vfJ k1 f r1.toInt64) g H locs ls hg hf (had 0 h0T) hV1 hrc1 hJ1 G hl
set_option maxHeartbeats 4000000 in
set_option maxRecDepth 100000 in
theorem y_a58 {p : Program} {e : Env} {s : State} {m : MethodId} {below : List Frame} {meth : Method} {c : Code} (l : Launch) (hst : l.stackTraces = false) {b L : Nat} {xs : Nat → Int32} (hx : p.tables.exec = Jvm.exec) (hb : c.code = code) (hml : c.maxLocals = 9) (hown : s.vm.findClass RL = some m.cls) (hts : ∀ w ∈ lw_tbl, w.before #[Value.ref b] s = true) (hX0 : va_X b L xs s s.heap) (hbl : b < s.heap.size) (hX : xT (fun q => s.heap.size ≤ q) s) (hN : nC s) (hTS : sAll s.heap.size s) {D : va_G} {cI cJ cZ cMic cSrc cSt cAI cAJ cD : ClassId} (hK : va_K D vwCl (CT cI cJ cZ cMic cSrc cSt cAI cAJ ++ [(cD, .double)]) s) {Q : State → Prop} {i j : Nat} (hi : i + 6 ≤ L) (hL : L ≤ 3072) (hj : j < 512) {aj ae : Nat} {ad am : Nat → Nat} {T : AT} {Sm : MS} {f : Nat → Int64} {g : Nat → UInt64} {ls : Array Slot} {H : Heap} {locs : List Loc} (hV : IV aR0 1586 aK1 aK2 T) (hrc : RC T) (hJ : JJ Sm) (G : gL cI cJ cZ cMic cSrc cSt cAI cAJ D ad (fun q => s.heap.size ≤ q) s.heap H locs T (oJ aj cJ f :: oD ae cD g :: MW cI cJ cZ am Sm)) (hl : lv_has ls 9 [(5, .int (nI i)), (4, .ref ae), (3, .ref aj), (2, .ref (am 0)), (1, .ref (ad 0)), (0, .ref b)]) (kk : ∀ {k1 : Nat} {r1 : Int32} {T1 : AT} {r2 : Int32} {S1 : MS} (ad2 : Nat → Nat) (f1 : Nat → Int64) (g1 : Nat → UInt64) (H1 : Heap) (locs1 : List Loc) (ls1 : Array Slot), g_X11_clean T 0 (xs (i + 1)) = some (k1, r1, T1) → fr_clean Sm (xs (i + 1)) = some (r2, S1) → ad2 0 = ad 0 → IV aR0 1586 aK1 aK2 T1 → RC T1 → JJ S1 → gL cI cJ cZ cMic cSrc cSt cAI cAJ D ad2 (fun q => s.heap.size ≤ q) s.heap H1 locs1 T1 (oJ aj cJ f1 :: oD ae cD g1 :: MW cI cJ cZ am S1) → lv_has ls1 9 [(5, .int (nI i)), (4, .ref ae), (3, .ref aj), (2, .ref (am 0)), (1, .ref (ad2 0)), (0, .ref b)] → W p l e room_1 s m #[Value.ref b] below meth c H1 locs1 (19 + T1.1 + (j + 1)) (38467 + sg T1 + 6 * (j + 1)) Q (F0 m 2439 ls1 [])) : W p l e room_1 s m #[Value.ref b] below meth c H locs (19 + T.1 + j) (38467 + sg T + 6 * j) Q (F0 m 2282 ls []) := by
  have E : cE p c cL_law s m #[Value.ref b] lw_tbl D RL (CT cI cJ cZ cMic cSrc cSt cAI cAJ ++ [(cD, .double)]) := ⟨hx, hb, hts, hown, hK⟩
  have hA : ∀ q : Nat, s.heap.size ≤ q → s.heap.size ≤ q := fun _ h => h
  have h0T : 0 < T.1 := Nat.lt_of_lt_of_le (by decide) hV.1.2.2
  have h0s : T.2.1 0 = (11, 0) := hV.2.1 0 ⟨by decide, by decide +kernel, by decide +kernel⟩
  refine lv_aload_n hx hb dL_law_2282 rfl (lv_at hl 4 rfl) ?_
  refine lv_aload_n hx hb dL_law_2283 rfl (lv_at hl 5 rfl) ?_
  refine lv_iload hx hb dL_law_2284 (lv_at hl 0 rfl) ?_
  refine lv_iconst (v := 1) hx hb dL_law_2286 (by decide) ?_
  refine lv_iadd hx hb dL_law_2287 ?_
  refine lv_to (y := nI (i + 1)) (nI_add i 1) ?_
  refine va_sld hx hb hX0 hbl (Nat.not_le.mpr hbl) G.2.2 (i := nI (i + 1)) (vp_in_nI (n := i + 1) (N := L) (by omega) (by omega)) dL_law_2288 ?_
  refine lv_to (y := xs (i + 1)) (congrArg xs (nI_clamp (by omega))) ?_
  refine lv_aload_n hx hb dL_law_2289 rfl (lv_at hl 2 rfl) ?_
  obtain ⟨⟨k1, r1, T1⟩, hg, hc⟩ := cs_X11_clean T 0 (xs (i + 1)) hV (by decide +kernel)
  have hV1 : IV aR0 1586 aK1 aK2 T1 := hc.1.1
  have hg1 := s_X11_clean hg
  have hg2 := sg_le hg1
  have hg3 := hg1.1
  have hk := hV1.2.2.2.2.2.2
  have hrc1 := hg1.2.2 hrc
  have hr0 := a_room
  refine l_v (h0 := s.heap.size) (As := [.ref (ad 0), .int (xs (i + 1)), .ref aj]) (rest := []) E G hA hX hN (fun _ h => h) hTS hml (v_clean l hst D s.heap.size ad T 0 (xs (i + 1)) aj f hg hrc h0T h0s) (vx_cwSW 3 hts (glA (L := [Cond.methodLink RL 385 yL_clean, Cond.static yL_clean, Cond.initialized RL]) (gl_in [(7, 159), (7, 160), (1, 0)] (by decide +kernel) (by decide +kernel)) ⟨(t_of [Cond.codeWith yL_clean cL_clean 4 (some .int) [(0, 9, 12, 21), (0, 9, 15, 15)]] [(7, 161)] (by decide +kernel) _ List.mem_cons_self), List.all_eq_true.mp (by decide +kernel : [Cond.codeWith yL_clean cL_clean 4 (some .int) [(0, 9, 12, 21), (0, 9, 15, 15)]].all goodWord = true) _ List.mem_cons_self⟩) rfl rfl rfl (by decide +kernel) ⟨Nat.le_of_ble_eq_true rfl, Nat.le_of_ble_eq_true rfl⟩) rfl hl.1 rfl (lv_room (Nat.le_of_ble_eq_true rfl)) dL_law_2290 ⟨by show _ ≤ 601024; omega, by show _ ≤ 7293034; omega⟩ ?_
  intro ad2 H locs had G
  rw [← had 0 h0T] at hl
  refine lv_istore (lv' := [(6, .int (vck 1 0 2 k1)), (5, .int (nI i)), (4, .ref ae), (3, .ref aj), (2, .ref (am 0)), (1, .ref (ad2 0)), (0, .ref b)]) hx hb dL_law_2293 hl (by decide) rfl (fun ls hl => ?_)
  refine lv_aload_n hx hb dL_law_2295 rfl (lv_at hl 4 rfl) ?_
  refine lv_aload_n hx hb dL_law_2296 rfl (lv_at hl 6 rfl) ?_
  refine lv_iload hx hb dL_law_2297 (lv_at hl 1 rfl) ?_
  refine lv_iconst (v := 1) hx hb dL_law_2299 (by decide) ?_
  refine lv_iadd hx hb dL_law_2300 ?_
  refine lv_to (y := nI (i + 1)) (nI_add i 1) ?_
  refine va_sld hx hb hX0 hbl (Nat.not_le.mpr hbl) G.2.2 (i := nI (i + 1)) (vp_in_nI (n := i + 1) (N := L) (by omega) (by omega)) dL_law_2301 ?_
  refine lv_to (y := xs (i + 1)) (congrArg xs (nI_clamp (by omega))) ?_
  obtain ⟨⟨r2, S1⟩, hf, hj⟩ := sj_clean Sm (xs (i + 1)) hJ
  have hJ1 : JJ S1 := hj
  refine y_mi (As := [.int (xs (i + 1))]) (rest := []) E G hA hX.2.2.2.2 hml (tr_clean l D cI cJ cZ am Sm (xs (i + 1)) hf) (cwV 1 hts (glM (L := [Cond.methodLink RL 387 yX12_clean, Cond.instanceMethod yX12_clean, Cond.selects RX12 yX12_clean yX12_clean, Cond.initialized RX12]) (gl_in [(10, 185), (10, 186), (10, 187), (1, 14)] (by decide +kernel) (by decide +kernel)) ⟨(t_of [Cond.code yX12_clean cX12_clean 6 (some .int)] [(10, 188)] (by decide +kernel) _ List.mem_cons_self), List.all_eq_true.mp (by decide +kernel : [Cond.code yX12_clean cX12_clean 6 (some .int)].all goodWord = true) _ List.mem_cons_self⟩) rfl rfl rfl (by decide +kernel) ⟨Nat.le_of_ble_eq_true rfl, Nat.le_of_ble_eq_true rfl⟩) rfl hl.1 rfl (lv_room (Nat.le_of_ble_eq_true rfl)) dL_law_2302 ⟨by show _ ≤ 601024; omega, by show _ ≤ 7293034; omega⟩ (fun H locs G => ?_)
  refine lv_istore (lv' := [(7, .int r2), (6, .int (vck 1 0 2 k1)), (5, .int (nI i)), (4, .ref ae), (3, .ref aj), (2, .ref (am 0)), (1, .ref (ad2 0)), (0, .ref b)]) hx hb dL_law_2305 hl (by decide) rfl (fun ls hl => ?_)
  refine lv_goto (tgt := 2439) hx hb dL_law_2307 (by decide) ?_
  have hl := lv_sub hl [2, 3, 4, 5, 6, 7] rfl
  refine W.widen (k := 19 + T1.1 + (j + 1)) (n := 38467 + sg T1 + 6 * (j + 1)) (by omega) (by omega) ?_
  exact kk ad2 (vfJ k1 f r1.toInt64) g H locs ls hg hf (had 0 h0T) hV1 hrc1 hJ1 G hl
set_option maxHeartbeats 4000000 in
set_option maxRecDepth 100000 in
theorem y_a59 {p : Program} {e : Env} {s : State} {m : MethodId} {below : List Frame} {meth : Method} {c : Code} (l : Launch) (hst : l.stackTraces = false) {b L : Nat} {xs : Nat → Int32} (hx : p.tables.exec = Jvm.exec) (hb : c.code = code) (hml : c.maxLocals = 9) (hown : s.vm.findClass RL = some m.cls) (hts : ∀ w ∈ lw_tbl, w.before #[Value.ref b] s = true) (hX0 : va_X b L xs s s.heap) (hbl : b < s.heap.size) (hX : xT (fun q => s.heap.size ≤ q) s) (hN : nC s) (hTS : sAll s.heap.size s) {D : va_G} {cI cJ cZ cMic cSrc cSt cAI cAJ cD : ClassId} (hK : va_K D vwCl (CT cI cJ cZ cMic cSrc cSt cAI cAJ ++ [(cD, .double)]) s) {Q : State → Prop} {i j : Nat} (hi : i + 6 ≤ L) (hL : L ≤ 3072) (hj : j < 512) {aj ae : Nat} {ad am : Nat → Nat} {T : AT} {Sm : MS} {f : Nat → Int64} {g : Nat → UInt64} {ls : Array Slot} {H : Heap} {locs : List Loc} (hV : IV aR0 1586 aK1 aK2 T) (hrc : RC T) (hJ : JJ Sm) (G : gL cI cJ cZ cMic cSrc cSt cAI cAJ D ad (fun q => s.heap.size ≤ q) s.heap H locs T (oJ aj cJ f :: oD ae cD g :: MW cI cJ cZ am Sm)) (hl : lv_has ls 9 [(5, .int (nI i)), (4, .ref ae), (3, .ref aj), (2, .ref (am 0)), (1, .ref (ad 0)), (0, .ref b)]) (kk : ∀ {k1 : Nat} {r1 : Int32} {T1 : AT} {r2 : Int32} {S1 : MS} (ad2 : Nat → Nat) (f1 : Nat → Int64) (g1 : Nat → UInt64) (H1 : Heap) (locs1 : List Loc) (ls1 : Array Slot), g_X11_cleaned T 0 = some (k1, r1, T1) → fr_cleaned Sm = some (r2, S1) → ad2 0 = ad 0 → IV aR0 1586 aK1 aK2 T1 → RC T1 → JJ S1 → gL cI cJ cZ cMic cSrc cSt cAI cAJ D ad2 (fun q => s.heap.size ≤ q) s.heap H1 locs1 T1 (oJ aj cJ f1 :: oD ae cD g1 :: MW cI cJ cZ am S1) → lv_has ls1 9 [(5, .int (nI i)), (4, .ref ae), (3, .ref aj), (2, .ref (am 0)), (1, .ref (ad2 0)), (0, .ref b)] → W p l e room_1 s m #[Value.ref b] below meth c H1 locs1 (19 + T1.1 + (j + 1)) (38467 + sg T1 + 6 * (j + 1)) Q (F0 m 2439 ls1 [])) : W p l e room_1 s m #[Value.ref b] below meth c H locs (19 + T.1 + j) (38467 + sg T + 6 * j) Q (F0 m 2310 ls []) := by
  have E : cE p c cL_law s m #[Value.ref b] lw_tbl D RL (CT cI cJ cZ cMic cSrc cSt cAI cAJ ++ [(cD, .double)]) := ⟨hx, hb, hts, hown, hK⟩
  have hA : ∀ q : Nat, s.heap.size ≤ q → s.heap.size ≤ q := fun _ h => h
  have h0T : 0 < T.1 := Nat.lt_of_lt_of_le (by decide) hV.1.2.2
  have h0s : T.2.1 0 = (11, 0) := hV.2.1 0 ⟨by decide, by decide +kernel, by decide +kernel⟩
  refine lv_aload_n hx hb dL_law_2310 rfl (lv_at hl 4 rfl) ?_
  refine lv_aload_n hx hb dL_law_2311 rfl (lv_at hl 2 rfl) ?_
  obtain ⟨⟨k1, r1, T1⟩, hg, hc⟩ := cs_X11_cleaned T 0 hV (by decide +kernel)
  have hV1 : IV aR0 1586 aK1 aK2 T1 := by rw [show T1 = T from hc.1]; exact hV
  have hg1 := (gl_sp (s_X11_cleaned hg))
  have hg2 := sg_le hg1
  have hg3 := hg1.1
  have hk := hV1.2.2.2.2.2.2
  have hrc1 := hg1.2.2 hrc
  have hr0 := a_room
  refine l_v (h0 := s.heap.size) (As := [.ref (ad 0), .ref aj]) (rest := []) E G hA hX hN (fun _ h => h) hTS hml (v_cleaned l hst D s.heap.size ad T 0  aj f hg hrc h0T h0s) (vx_cwSW 2 hts (glA (L := [Cond.methodLink RL 388 yL_cleaned, Cond.static yL_cleaned, Cond.initialized RL]) (gl_in [(7, 180), (7, 181), (1, 0)] (by decide +kernel) (by decide +kernel)) ⟨(t_of [Cond.codeWith yL_cleaned cL_cleaned 3 (some .int) [(0, 8, 11, 21)]] [(7, 182)] (by decide +kernel) _ List.mem_cons_self), List.all_eq_true.mp (by decide +kernel : [Cond.codeWith yL_cleaned cL_cleaned 3 (some .int) [(0, 8, 11, 21)]].all goodWord = true) _ List.mem_cons_self⟩) rfl rfl rfl (by decide +kernel) ⟨Nat.le_of_ble_eq_true rfl, Nat.le_of_ble_eq_true rfl⟩) rfl hl.1 rfl (lv_room (Nat.le_of_ble_eq_true rfl)) dL_law_2312 ⟨by show _ ≤ 601024; omega, by show _ ≤ 7293034; omega⟩ ?_
  intro ad2 H locs had G
  rw [← had 0 h0T] at hl
  refine lv_istore (lv' := [(6, .int (vck 1 0 0 k1)), (5, .int (nI i)), (4, .ref ae), (3, .ref aj), (2, .ref (am 0)), (1, .ref (ad2 0)), (0, .ref b)]) hx hb dL_law_2315 hl (by decide) rfl (fun ls hl => ?_)
  refine lv_aload_n hx hb dL_law_2317 rfl (lv_at hl 4 rfl) ?_
  obtain ⟨⟨r2, S1⟩, hf, hj⟩ := sj_cleaned Sm hJ
  have hJ1 : JJ S1 := hj
  refine y_mi (As := []) (rest := []) E G hA hX.2.2.2.2 hml (tr_cleaned l D cI cJ cZ am Sm  hf) (cwV 0 hts (glM (L := [Cond.methodLink RL 390 yX12_cleaned, Cond.instanceMethod yX12_cleaned, Cond.selects RX12 yX12_cleaned yX12_cleaned, Cond.initialized RX12]) (gl_in [(10, 193), (10, 194), (10, 195), (1, 14)] (by decide +kernel) (by decide +kernel)) ⟨(t_of [Cond.code yX12_cleaned cX12_cleaned 1 (some .int)] [(10, 196)] (by decide +kernel) _ List.mem_cons_self), List.all_eq_true.mp (by decide +kernel : [Cond.code yX12_cleaned cX12_cleaned 1 (some .int)].all goodWord = true) _ List.mem_cons_self⟩) rfl rfl rfl (by decide +kernel) ⟨Nat.le_of_ble_eq_true rfl, Nat.le_of_ble_eq_true rfl⟩) rfl hl.1 rfl (lv_room (Nat.le_of_ble_eq_true rfl)) dL_law_2318 ⟨by show _ ≤ 601024; omega, by show _ ≤ 7293034; omega⟩ (fun H locs G => ?_)
  refine lv_istore (lv' := [(7, .int r2), (6, .int (vck 1 0 0 k1)), (5, .int (nI i)), (4, .ref ae), (3, .ref aj), (2, .ref (am 0)), (1, .ref (ad2 0)), (0, .ref b)]) hx hb dL_law_2321 hl (by decide) rfl (fun ls hl => ?_)
  refine lv_goto (tgt := 2439) hx hb dL_law_2323 (by decide) ?_
  have hl := lv_sub hl [2, 3, 4, 5, 6, 7] rfl
  refine W.widen (k := 19 + T1.1 + (j + 1)) (n := 38467 + sg T1 + 6 * (j + 1)) (by omega) (by omega) ?_
  exact kk ad2 (vfJ k1 f r1.toInt64) g H locs ls hg hf (had 0 h0T) hV1 hrc1 hJ1 G hl
set_option maxHeartbeats 4000000 in
set_option maxRecDepth 100000 in
theorem y_a60 {p : Program} {e : Env} {s : State} {m : MethodId} {below : List Frame} {meth : Method} {c : Code} (l : Launch) (hst : l.stackTraces = false) {b L : Nat} {xs : Nat → Int32} (hx : p.tables.exec = Jvm.exec) (hb : c.code = code) (hml : c.maxLocals = 9) (hown : s.vm.findClass RL = some m.cls) (hts : ∀ w ∈ lw_tbl, w.before #[Value.ref b] s = true) (hX0 : va_X b L xs s s.heap) (hbl : b < s.heap.size) (hX : xT (fun q => s.heap.size ≤ q) s) (hN : nC s) (hTS : sAll s.heap.size s) {D : va_G} {cI cJ cZ cMic cSrc cSt cAI cAJ cD : ClassId} (hK : va_K D vwCl (CT cI cJ cZ cMic cSrc cSt cAI cAJ ++ [(cD, .double)]) s) {Q : State → Prop} {i j : Nat} (hi : i + 6 ≤ L) (hL : L ≤ 3072) (hj : j < 512) {aj ae : Nat} {ad am : Nat → Nat} {T : AT} {Sm : MS} {f : Nat → Int64} {g : Nat → UInt64} {ls : Array Slot} {H : Heap} {locs : List Loc} (hV : IV aR0 1586 aK1 aK2 T) (hrc : RC T) (hJ : JJ Sm) (G : gL cI cJ cZ cMic cSrc cSt cAI cAJ D ad (fun q => s.heap.size ≤ q) s.heap H locs T (oJ aj cJ f :: oD ae cD g :: MW cI cJ cZ am Sm)) (hl : lv_has ls 9 [(5, .int (nI i)), (4, .ref ae), (3, .ref aj), (2, .ref (am 0)), (1, .ref (ad 0)), (0, .ref b)]) (hq : ∀ {k1 : Nat} {r1 : Int32} {T1 : AT} {r2 : Int32} {S1 : MS}, g_X11_undo T 0 = some (k1, r1, T1) → fr_undo Sm = some (r2, S1) → (S1.1 0) = (vck 1 0 0 k1) ∧ ((vck 1 0 0 k1) = 0 → k1 = 0 ∧ r1 = r2)) (kk : ∀ {k1 : Nat} {r1 : Int32} {T1 : AT} {r2 : Int32} {S1 : MS} (ad2 : Nat → Nat) (f1 : Nat → Int64) (g1 : Nat → UInt64) (H1 : Heap) (locs1 : List Loc) (ls1 : Array Slot), g_X11_undo T 0 = some (k1, r1, T1) → fr_undo Sm = some (r2, S1) → ad2 0 = ad 0 → IV aR0 1586 aK1 aK2 T1 → RC T1 → JJ S1 → gL cI cJ cZ cMic cSrc cSt cAI cAJ D ad2 (fun q => s.heap.size ≤ q) s.heap H1 locs1 T1 (oJ aj cJ f1 :: oD ae cD g1 :: MW cI cJ cZ am S1) → lv_has ls1 9 [(5, .int (nI i)), (4, .ref ae), (3, .ref aj), (2, .ref (am 0)), (1, .ref (ad2 0)), (0, .ref b)] → W p l e room_1 s m #[Value.ref b] below meth c H1 locs1 (19 + T1.1 + (j + 1)) (38467 + sg T1 + 6 * (j + 1)) Q (F0 m 2439 ls1 [])) : W p l e room_1 s m #[Value.ref b] below meth c H locs (19 + T.1 + j) (38467 + sg T + 6 * j) Q (F0 m 2326 ls []) := by
  have E : cE p c cL_law s m #[Value.ref b] lw_tbl D RL (CT cI cJ cZ cMic cSrc cSt cAI cAJ ++ [(cD, .double)]) := ⟨hx, hb, hts, hown, hK⟩
  have hA : ∀ q : Nat, s.heap.size ≤ q → s.heap.size ≤ q := fun _ h => h
  have h0T : 0 < T.1 := Nat.lt_of_lt_of_le (by decide) hV.1.2.2
  have h0s : T.2.1 0 = (11, 0) := hV.2.1 0 ⟨by decide, by decide +kernel, by decide +kernel⟩
  refine lv_aload_n hx hb dL_law_2326 rfl (lv_at hl 4 rfl) ?_
  refine lv_aload_n hx hb dL_law_2327 rfl (lv_at hl 2 rfl) ?_
  obtain ⟨⟨k1, r1, T1⟩, hg, hc⟩ := cs_X11_undo T 0 hV (by decide +kernel)
  have hV1 : IV aR0 1586 aK1 aK2 T1 := hc.1.1
  have hg1 := s_X11_undo hg
  have hg2 := sg_le hg1
  have hg3 := hg1.1
  have hk := hV1.2.2.2.2.2.2
  have hrc1 := hg1.2.2 hrc
  have hr0 := a_room
  refine l_v (h0 := s.heap.size) (As := [.ref (ad 0), .ref aj]) (rest := []) E G hA hX hN (fun _ h => h) hTS hml (v_undo l hst D s.heap.size ad T 0  aj f hg hrc h0T h0s) (vx_cwSW 2 hts (glA (L := [Cond.methodLink RL 391 yL_undo, Cond.static yL_undo, Cond.initialized RL]) (gl_in [(7, 187), (7, 188), (1, 0)] (by decide +kernel) (by decide +kernel)) ⟨(t_of [Cond.codeWith yL_undo cL_undo 3 (some .int) [(0, 8, 11, 21)]] [(7, 189)] (by decide +kernel) _ List.mem_cons_self), List.all_eq_true.mp (by decide +kernel : [Cond.codeWith yL_undo cL_undo 3 (some .int) [(0, 8, 11, 21)]].all goodWord = true) _ List.mem_cons_self⟩) rfl rfl rfl (by decide +kernel) ⟨Nat.le_of_ble_eq_true rfl, Nat.le_of_ble_eq_true rfl⟩) rfl hl.1 rfl (lv_room (Nat.le_of_ble_eq_true rfl)) dL_law_2328 ⟨by show _ ≤ 601024; omega, by show _ ≤ 7293034; omega⟩ ?_
  intro ad2 H locs had G
  rw [← had 0 h0T] at hl
  refine lv_istore (lv' := [(6, .int (vck 1 0 0 k1)), (5, .int (nI i)), (4, .ref ae), (3, .ref aj), (2, .ref (am 0)), (1, .ref (ad2 0)), (0, .ref b)]) hx hb dL_law_2331 hl (by decide) rfl (fun ls hl => ?_)
  refine lv_aload_n hx hb dL_law_2333 rfl (lv_at hl 4 rfl) ?_
  obtain ⟨⟨r2, S1⟩, hf, hj⟩ := sj_undo Sm hJ
  have hJ1 : JJ S1 := hj
  refine y_mi (As := []) (rest := []) E G hA hX.2.2.2.2 hml (tr_undo l D cI cJ cZ am Sm  hf) (cwV 0 hts (glM (L := [Cond.methodLink RL 393 yX12_undo, Cond.instanceMethod yX12_undo, Cond.selects RX12 yX12_undo yX12_undo, Cond.initialized RX12]) (gl_in [(10, 197), (10, 198), (10, 199), (1, 14)] (by decide +kernel) (by decide +kernel)) ⟨(t_of [Cond.code yX12_undo cX12_undo 1 (some .int)] [(10, 200)] (by decide +kernel) _ List.mem_cons_self), List.all_eq_true.mp (by decide +kernel : [Cond.code yX12_undo cX12_undo 1 (some .int)].all goodWord = true) _ List.mem_cons_self⟩) rfl rfl rfl (by decide +kernel) ⟨Nat.le_of_ble_eq_true rfl, Nat.le_of_ble_eq_true rfl⟩) rfl hl.1 rfl (lv_room (Nat.le_of_ble_eq_true rfl)) dL_law_2334 ⟨by show _ ≤ 601024; omega, by show _ ≤ 7293034; omega⟩ (fun H locs G => ?_)
  refine lv_istore (lv' := [(7, .int r2), (6, .int (vck 1 0 0 k1)), (5, .int (nI i)), (4, .ref ae), (3, .ref aj), (2, .ref (am 0)), (1, .ref (ad2 0)), (0, .ref b)]) hx hb dL_law_2337 hl (by decide) rfl (fun ls hl => ?_)
  refine lv_aload_n hx hb dL_law_2339 rfl (lv_at hl 5 rfl) ?_
  refine y_mi (As := []) (rest := []) E G hA hX.2.2.2.2 hml (tr_thrown l D cI cJ cZ am S1 (r1 := S1.1 0) (S1 := S1) rfl) (cwV 0 hts (glM (L := [Cond.methodLink RL 394 yX12_thrown, Cond.instanceMethod yX12_thrown, Cond.selects RX12 yX12_thrown yX12_thrown, Cond.initialized RX12]) (gl_in [(8, 65), (8, 66), (8, 67), (1, 14)] (by decide +kernel) (by decide +kernel)) ⟨(t_of [Cond.code yX12_thrown cX12_thrown 1 (some .int)] [(8, 68)] (by decide +kernel) _ List.mem_cons_self), List.all_eq_true.mp (by decide +kernel : [Cond.code yX12_thrown cX12_thrown 1 (some .int)].all goodWord = true) _ List.mem_cons_self⟩) rfl rfl rfl (by decide +kernel) ⟨Nat.le_of_ble_eq_true rfl, Nat.le_of_ble_eq_true rfl⟩) rfl hl.1 rfl (lv_room (Nat.le_of_ble_eq_true rfl)) dL_law_2340 ⟨by show _ ≤ 601024; omega, by show _ ≤ 7293034; omega⟩ (fun H locs G => ?_)
  refine lv_iload hx hb dL_law_2343 (lv_at hl 1 rfl) ?_
  refine lv_icmp_eq (tgt := 2350) hx hb dL_law_2345 (by decide) (fun c1 => ?_) (fun c1 => absurd (hq hg hf).1 c1)
  refine lv_iload hx hb dL_law_2350 (lv_at hl 1 rfl) ?_
  refine lv_if_ne (tgt := 2367) hx hb dL_law_2352 (by decide) (fun c1 => ?_) (fun c1 => ?_)
  · refine lv_goto (tgt := 2439) hx hb dL_law_2367 (by decide) ?_
    have hl := lv_sub hl [2, 3, 4, 5, 6, 7] rfl
    refine W.widen (k := 19 + T1.1 + (j + 1)) (n := 38467 + sg T1 + 6 * (j + 1)) (by omega) (by omega) ?_
    exact kk ad2 (vfJ k1 f r1.toInt64) g H locs ls hg hf (had 0 h0T) hV1 hrc1 hJ1 G hl
  obtain ⟨hk0, hq2⟩ := (hq hg hf).2 c1
  subst hk0
  refine lv_aload_n hx hb dL_law_2355 rfl (lv_at hl 4 rfl) ?_
  refine lv_iconst (v := 0) hx hb dL_law_2356 (by decide) ?_
  refine va_lald hx hb hK G.1 T1.1 1 (tW_at _ _ _ _ _) rfl (vp_in_nI (n := 0) (N := 1) (by decide) (by decide)) dL_law_2357 ?_
  rw [show (vfJ 0 f r1.toInt64) (0 : Int32).toNatClampNeg = r1.toInt64 from rfl]
  refine lv_iload hx hb dL_law_2358 (lv_at hl 0 rfl) ?_
  refine lv_i2l (v := r2.toInt64) hx hb dL_law_2360 rfl ?_
  refine W.lcmp hx hb dL_law_2361 ?_
  refine lv_if_eq (tgt := 2367) hx hb dL_law_2362 (by decide) (fun c1 => ?_) (fun c1 => absurd (by rw [hq2]; exact lg_cmp_rf _) c1)
  refine lv_goto (tgt := 2439) hx hb dL_law_2367 (by decide) ?_
  have hl := lv_sub hl [2, 3, 4, 5, 6, 7] rfl
  refine W.widen (k := 19 + T1.1 + (j + 1)) (n := 38467 + sg T1 + 6 * (j + 1)) (by omega) (by omega) ?_
  exact kk ad2 (vfJ 0 f r1.toInt64) g H locs ls hg hf (had 0 h0T) hV1 hrc1 hJ1 G hl
set_option maxHeartbeats 4000000 in
set_option maxRecDepth 100000 in
theorem y_a61 {p : Program} {e : Env} {s : State} {m : MethodId} {below : List Frame} {meth : Method} {c : Code} (l : Launch) (hst : l.stackTraces = false) {b L : Nat} {xs : Nat → Int32} (hx : p.tables.exec = Jvm.exec) (hb : c.code = code) (hml : c.maxLocals = 9) (hown : s.vm.findClass RL = some m.cls) (hts : ∀ w ∈ lw_tbl, w.before #[Value.ref b] s = true) (hX0 : va_X b L xs s s.heap) (hbl : b < s.heap.size) (hX : xT (fun q => s.heap.size ≤ q) s) (hN : nC s) (hTS : sAll s.heap.size s) {D : va_G} {cI cJ cZ cMic cSrc cSt cAI cAJ cD : ClassId} (hK : va_K D vwCl (CT cI cJ cZ cMic cSrc cSt cAI cAJ ++ [(cD, .double)]) s) {Q : State → Prop} {i j : Nat} (hi : i + 6 ≤ L) (hL : L ≤ 3072) (hj : j < 512) {aj ae : Nat} {ad am : Nat → Nat} {T : AT} {Sm : MS} {f : Nat → Int64} {g : Nat → UInt64} {ls : Array Slot} {H : Heap} {locs : List Loc} (hV : IV aR0 1586 aK1 aK2 T) (hrc : RC T) (hJ : JJ Sm) (G : gL cI cJ cZ cMic cSrc cSt cAI cAJ D ad (fun q => s.heap.size ≤ q) s.heap H locs T (oJ aj cJ f :: oD ae cD g :: MW cI cJ cZ am Sm)) (hl : lv_has ls 9 [(5, .int (nI i)), (4, .ref ae), (3, .ref aj), (2, .ref (am 0)), (1, .ref (ad 0)), (0, .ref b)]) (kk : ∀ {r1 : Int32} {T1 : AT} {r2 : Int32} {S1 : MS} (ad2 : Nat → Nat) (f1 : Nat → Int64) (g1 : Nat → UInt64) (H1 : Heap) (locs1 : List Loc) (ls1 : Array Slot), g_X11_undoable T 0 = some (r1, T1) → fr_undoable Sm = some (r2, S1) → ad2 0 = ad 0 → IV aR0 1586 aK1 aK2 T1 → RC T1 → JJ S1 → gL cI cJ cZ cMic cSrc cSt cAI cAJ D ad2 (fun q => s.heap.size ≤ q) s.heap H1 locs1 T1 (oJ aj cJ f1 :: oD ae cD g1 :: MW cI cJ cZ am S1) → lv_has ls1 9 [(5, .int (nI i)), (4, .ref ae), (3, .ref aj), (2, .ref (am 0)), (1, .ref (ad2 0)), (0, .ref b)] → W p l e room_1 s m #[Value.ref b] below meth c H1 locs1 (19 + T1.1 + (j + 1)) (38467 + sg T1 + 6 * (j + 1)) Q (F0 m 2439 ls1 [])) : W p l e room_1 s m #[Value.ref b] below meth c H locs (19 + T.1 + j) (38467 + sg T + 6 * j) Q (F0 m 2370 ls []) := by
  have E : cE p c cL_law s m #[Value.ref b] lw_tbl D RL (CT cI cJ cZ cMic cSrc cSt cAI cAJ ++ [(cD, .double)]) := ⟨hx, hb, hts, hown, hK⟩
  have hA : ∀ q : Nat, s.heap.size ≤ q → s.heap.size ≤ q := fun _ h => h
  have h0T : 0 < T.1 := Nat.lt_of_lt_of_le (by decide) hV.1.2.2
  have h0s : T.2.1 0 = (11, 0) := hV.2.1 0 ⟨by decide, by decide +kernel, by decide +kernel⟩
  refine lv_aload_n hx hb dL_law_2370 rfl (lv_at hl 4 rfl) ?_
  obtain ⟨⟨r1, T1⟩, hg, hc⟩ := cs_X11_undoable T 0 hV (by decide +kernel)
  have hV1 : IV aR0 1586 aK1 aK2 T1 := by rw [show T1 = T from hc.1]; exact hV
  have hg1 := (gl_sp (s_X11_undoable hg))
  have hg2 := sg_le hg1
  have hg3 := hg1.1
  have hk := hV1.2.2.2.2.2.2
  have hrc1 := hg1.2.2 hrc
  have hr0 := a_room
  refine t_cvi (As := []) (rest := []) E G hA hX hX.2.2.2.1 hml (u_X11_undoable l hst D cI cJ cZ cMic cSrc cSt cAI cAJ ad T 0  hg) (cwV 0 hts (glA (L := [Cond.methodLink RL 397 yX11_undoable, Cond.instanceMethod yX11_undoable, Cond.selects RX11 yX11_undoable yX11_undoable, Cond.initialized RX11]) (gl_in [(3, 88), (3, 89), (3, 90), (1, 1)] (by decide +kernel) (by decide +kernel)) ⟨(t_of [Cond.code yX11_undoable cX11_undoable 1 (some .int)] [(3, 91)] (by decide +kernel) _ List.mem_cons_self), List.all_eq_true.mp (by decide +kernel : [Cond.code yX11_undoable cX11_undoable 1 (some .int)].all goodWord = true) _ List.mem_cons_self⟩) rfl rfl rfl (by decide +kernel) ⟨Nat.le_of_ble_eq_true rfl, Nat.le_of_ble_eq_true rfl⟩) h0T (cc_o11 h0s) rfl rfl hl.1 rfl (lv_room (Nat.le_of_ble_eq_true rfl)) dL_law_2371 ⟨by show _ ≤ 601024; omega, by show _ ≤ 7293034; omega⟩ ?_
  intro r9 T9 H locs hp G
  obtain ⟨hr9, hS1⟩ := hp
  rw [hS1] at G
  refine lv_to (y := r1) hr9 ?_
  refine lv_pop hx hb dL_law_2374 rfl ?_
  refine lv_aload_n hx hb dL_law_2375 rfl (lv_at hl 3 rfl) ?_
  obtain ⟨⟨r2, S1⟩, hf, hj⟩ := sj_undoable Sm hJ
  have hJ1 : JJ S1 := hj
  refine y_mi (As := []) (rest := []) E G hA hX.2.2.2.2 hml (tr_undoable l D cI cJ cZ am Sm  hf) (cwV 0 hts (glM (L := [Cond.methodLink RL 400 yX12_undoable, Cond.instanceMethod yX12_undoable, Cond.selects RX12 yX12_undoable yX12_undoable, Cond.initialized RX12]) (gl_in [(10, 201), (10, 202), (10, 203), (1, 14)] (by decide +kernel) (by decide +kernel)) ⟨(t_of [Cond.code yX12_undoable cX12_undoable 1 (some .int)] [(10, 204)] (by decide +kernel) _ List.mem_cons_self), List.all_eq_true.mp (by decide +kernel : [Cond.code yX12_undoable cX12_undoable 1 (some .int)].all goodWord = true) _ List.mem_cons_self⟩) rfl rfl rfl (by decide +kernel) ⟨Nat.le_of_ble_eq_true rfl, Nat.le_of_ble_eq_true rfl⟩) rfl hl.1 rfl (lv_room (Nat.le_of_ble_eq_true rfl)) dL_law_2376 ⟨by show _ ≤ 601024; omega, by show _ ≤ 7293034; omega⟩ (fun H locs G => ?_)
  refine lv_pop hx hb dL_law_2379 rfl ?_
  refine lv_goto (tgt := 2439) hx hb dL_law_2380 (by decide) ?_
  refine W.widen (k := 19 + T1.1 + (j + 1)) (n := 38467 + sg T1 + 6 * (j + 1)) (by omega) (by omega) ?_
  exact kk ad f g H locs ls hg hf rfl hV1 hrc1 hJ1 G hl
set_option maxHeartbeats 4000000 in
set_option maxRecDepth 100000 in
theorem y_a62 {p : Program} {e : Env} {s : State} {m : MethodId} {below : List Frame} {meth : Method} {c : Code} (l : Launch) (hst : l.stackTraces = false) {b L : Nat} {xs : Nat → Int32} (hx : p.tables.exec = Jvm.exec) (hb : c.code = code) (hml : c.maxLocals = 9) (hown : s.vm.findClass RL = some m.cls) (hts : ∀ w ∈ lw_tbl, w.before #[Value.ref b] s = true) (hX0 : va_X b L xs s s.heap) (hbl : b < s.heap.size) (hX : xT (fun q => s.heap.size ≤ q) s) (hN : nC s) (hTS : sAll s.heap.size s) {D : va_G} {cI cJ cZ cMic cSrc cSt cAI cAJ cD : ClassId} (hK : va_K D vwCl (CT cI cJ cZ cMic cSrc cSt cAI cAJ ++ [(cD, .double)]) s) {Q : State → Prop} {i j : Nat} (hi : i + 6 ≤ L) (hL : L ≤ 3072) (hj : j < 512) {aj ae : Nat} {ad am : Nat → Nat} {T : AT} {Sm : MS} {f : Nat → Int64} {g : Nat → UInt64} {ls : Array Slot} {H : Heap} {locs : List Loc} (hV : IV aR0 1586 aK1 aK2 T) (hrc : RC T) (hJ : JJ Sm) (G : gL cI cJ cZ cMic cSrc cSt cAI cAJ D ad (fun q => s.heap.size ≤ q) s.heap H locs T (oJ aj cJ f :: oD ae cD g :: MW cI cJ cZ am Sm)) (hl : lv_has ls 9 [(5, .int (nI i)), (4, .ref ae), (3, .ref aj), (2, .ref (am 0)), (1, .ref (ad 0)), (0, .ref b)]) (kk : ∀ {k1 : Nat} {r1 : Int32} {T1 : AT} {r2 : Int32} {S1 : MS} (ad2 : Nat → Nat) (f1 : Nat → Int64) (g1 : Nat → UInt64) (H1 : Heap) (locs1 : List Loc) (ls1 : Array Slot), g_X11_save T 0 (xs (i + 1)) = some (k1, r1, T1) → fr_save Sm (xs (i + 1)) = some (r2, S1) → ad2 0 = ad 0 → IV aR0 1586 aK1 aK2 T1 → RC T1 → JJ S1 → gL cI cJ cZ cMic cSrc cSt cAI cAJ D ad2 (fun q => s.heap.size ≤ q) s.heap H1 locs1 T1 (oJ aj cJ f1 :: oD ae cD g1 :: MW cI cJ cZ am S1) → lv_has ls1 9 [(5, .int (nI i)), (4, .ref ae), (3, .ref aj), (2, .ref (am 0)), (1, .ref (ad2 0)), (0, .ref b)] → W p l e room_1 s m #[Value.ref b] below meth c H1 locs1 (19 + T1.1 + (j + 1)) (38467 + sg T1 + 6 * (j + 1)) Q (F0 m 2439 ls1 [])) : W p l e room_1 s m #[Value.ref b] below meth c H locs (19 + T.1 + j) (38467 + sg T + 6 * j) Q (F0 m 2383 ls []) := by
  have E : cE p c cL_law s m #[Value.ref b] lw_tbl D RL (CT cI cJ cZ cMic cSrc cSt cAI cAJ ++ [(cD, .double)]) := ⟨hx, hb, hts, hown, hK⟩
  have hA : ∀ q : Nat, s.heap.size ≤ q → s.heap.size ≤ q := fun _ h => h
  have h0T : 0 < T.1 := Nat.lt_of_lt_of_le (by decide) hV.1.2.2
  have h0s : T.2.1 0 = (11, 0) := hV.2.1 0 ⟨by decide, by decide +kernel, by decide +kernel⟩
  refine lv_aload_n hx hb dL_law_2383 rfl (lv_at hl 4 rfl) ?_
  refine lv_aload_n hx hb dL_law_2384 rfl (lv_at hl 5 rfl) ?_
  refine lv_iload hx hb dL_law_2385 (lv_at hl 0 rfl) ?_
  refine lv_iconst (v := 1) hx hb dL_law_2387 (by decide) ?_
  refine lv_iadd hx hb dL_law_2388 ?_
  refine lv_to (y := nI (i + 1)) (nI_add i 1) ?_
  refine va_sld hx hb hX0 hbl (Nat.not_le.mpr hbl) G.2.2 (i := nI (i + 1)) (vp_in_nI (n := i + 1) (N := L) (by omega) (by omega)) dL_law_2389 ?_
  refine lv_to (y := xs (i + 1)) (congrArg xs (nI_clamp (by omega))) ?_
  refine lv_aload_n hx hb dL_law_2390 rfl (lv_at hl 2 rfl) ?_
  obtain ⟨⟨k1, r1, T1⟩, hg, hc⟩ := cs_X11_save T 0 (xs (i + 1)) hV (by decide +kernel)
  have hV1 : IV aR0 1586 aK1 aK2 T1 := hc.1.1
  have hg1 := s_X11_save hg
  have hg2 := sg_le hg1
  have hg3 := hg1.1
  have hk := hV1.2.2.2.2.2.2
  have hrc1 := hg1.2.2 hrc
  have hr0 := a_room
  refine l_v (h0 := s.heap.size) (As := [.ref (ad 0), .int (xs (i + 1)), .ref aj]) (rest := []) E G hA hX hN (fun _ h => h) hTS hml (v_save l hst D s.heap.size ad T 0 (xs (i + 1)) aj f hg hrc h0T h0s) (vx_cwSW 3 hts (glA (L := [Cond.methodLink RL 401 yL_save, Cond.static yL_save, Cond.initialized RL]) (gl_in [(7, 194), (7, 195), (1, 0)] (by decide +kernel) (by decide +kernel)) ⟨(t_of [Cond.codeWith yL_save cL_save 4 (some .int) [(0, 9, 12, 21), (0, 9, 15, 13)]] [(7, 196)] (by decide +kernel) _ List.mem_cons_self), List.all_eq_true.mp (by decide +kernel : [Cond.codeWith yL_save cL_save 4 (some .int) [(0, 9, 12, 21), (0, 9, 15, 13)]].all goodWord = true) _ List.mem_cons_self⟩) rfl rfl rfl (by decide +kernel) ⟨Nat.le_of_ble_eq_true rfl, Nat.le_of_ble_eq_true rfl⟩) rfl hl.1 rfl (lv_room (Nat.le_of_ble_eq_true rfl)) dL_law_2391 ⟨by show _ ≤ 601024; omega, by show _ ≤ 7293034; omega⟩ ?_
  intro ad2 H locs had G
  rw [← had 0 h0T] at hl
  refine lv_istore (lv' := [(6, .int (vck 1 2 0 k1)), (5, .int (nI i)), (4, .ref ae), (3, .ref aj), (2, .ref (am 0)), (1, .ref (ad2 0)), (0, .ref b)]) hx hb dL_law_2394 hl (by decide) rfl (fun ls hl => ?_)
  refine lv_aload_n hx hb dL_law_2396 rfl (lv_at hl 4 rfl) ?_
  refine lv_aload_n hx hb dL_law_2397 rfl (lv_at hl 6 rfl) ?_
  refine lv_iload hx hb dL_law_2398 (lv_at hl 1 rfl) ?_
  refine lv_iconst (v := 1) hx hb dL_law_2400 (by decide) ?_
  refine lv_iadd hx hb dL_law_2401 ?_
  refine lv_to (y := nI (i + 1)) (nI_add i 1) ?_
  refine va_sld hx hb hX0 hbl (Nat.not_le.mpr hbl) G.2.2 (i := nI (i + 1)) (vp_in_nI (n := i + 1) (N := L) (by omega) (by omega)) dL_law_2402 ?_
  refine lv_to (y := xs (i + 1)) (congrArg xs (nI_clamp (by omega))) ?_
  obtain ⟨⟨r2, S1⟩, hf, hj⟩ := sj_save Sm (xs (i + 1)) hJ
  have hJ1 : JJ S1 := hj
  refine y_mi (As := [.int (xs (i + 1))]) (rest := []) E G hA hX.2.2.2.2 hml (tr_save l D cI cJ cZ am Sm (xs (i + 1)) hf) (cwV 1 hts (glM (L := [Cond.methodLink RL 403 yX12_save, Cond.instanceMethod yX12_save, Cond.selects RX12 yX12_save yX12_save, Cond.initialized RX12]) (gl_in [(10, 205), (10, 206), (10, 207), (1, 14)] (by decide +kernel) (by decide +kernel)) ⟨(t_of [Cond.code yX12_save cX12_save 2 (some .int)] [(10, 208)] (by decide +kernel) _ List.mem_cons_self), List.all_eq_true.mp (by decide +kernel : [Cond.code yX12_save cX12_save 2 (some .int)].all goodWord = true) _ List.mem_cons_self⟩) rfl rfl rfl (by decide +kernel) ⟨Nat.le_of_ble_eq_true rfl, Nat.le_of_ble_eq_true rfl⟩) rfl hl.1 rfl (lv_room (Nat.le_of_ble_eq_true rfl)) dL_law_2403 ⟨by show _ ≤ 601024; omega, by show _ ≤ 7293034; omega⟩ (fun H locs G => ?_)
  refine lv_istore (lv' := [(7, .int r2), (6, .int (vck 1 2 0 k1)), (5, .int (nI i)), (4, .ref ae), (3, .ref aj), (2, .ref (am 0)), (1, .ref (ad2 0)), (0, .ref b)]) hx hb dL_law_2406 hl (by decide) rfl (fun ls hl => ?_)
  refine lv_goto (tgt := 2439) hx hb dL_law_2408 (by decide) ?_
  have hl := lv_sub hl [2, 3, 4, 5, 6, 7] rfl
  refine W.widen (k := 19 + T1.1 + (j + 1)) (n := 38467 + sg T1 + 6 * (j + 1)) (by omega) (by omega) ?_
  exact kk ad2 (vfJ k1 f r1.toInt64) g H locs ls hg hf (had 0 h0T) hV1 hrc1 hJ1 G hl
set_option maxHeartbeats 4000000 in
set_option maxRecDepth 100000 in
theorem y_a63 {p : Program} {e : Env} {s : State} {m : MethodId} {below : List Frame} {meth : Method} {c : Code} (l : Launch) (hst : l.stackTraces = false) {b L : Nat} {xs : Nat → Int32} (hx : p.tables.exec = Jvm.exec) (hb : c.code = code) (hml : c.maxLocals = 9) (hown : s.vm.findClass RL = some m.cls) (hts : ∀ w ∈ lw_tbl, w.before #[Value.ref b] s = true) (hX0 : va_X b L xs s s.heap) (hbl : b < s.heap.size) (hX : xT (fun q => s.heap.size ≤ q) s) (hN : nC s) (hTS : sAll s.heap.size s) {D : va_G} {cI cJ cZ cMic cSrc cSt cAI cAJ cD : ClassId} (hK : va_K D vwCl (CT cI cJ cZ cMic cSrc cSt cAI cAJ ++ [(cD, .double)]) s) {Q : State → Prop} {i j : Nat} (hi : i + 6 ≤ L) (hL : L ≤ 3072) (hj : j < 512) {aj ae : Nat} {ad am : Nat → Nat} {T : AT} {Sm : MS} {f : Nat → Int64} {g : Nat → UInt64} {ls : Array Slot} {H : Heap} {locs : List Loc} (hV : IV aR0 1586 aK1 aK2 T) (hrc : RC T) (hJ : JJ Sm) (G : gL cI cJ cZ cMic cSrc cSt cAI cAJ D ad (fun q => s.heap.size ≤ q) s.heap H locs T (oJ aj cJ f :: oD ae cD g :: MW cI cJ cZ am Sm)) (hl : lv_has ls 9 [(5, .int (nI i)), (4, .ref ae), (3, .ref aj), (2, .ref (am 0)), (1, .ref (ad 0)), (0, .ref b)]) (kk : ∀ {k1 : Nat} {r1 : Int32} {T1 : AT} {r2 : Int32} {S1 : MS} (ad2 : Nat → Nat) (f1 : Nat → Int64) (g1 : Nat → UInt64) (H1 : Heap) (locs1 : List Loc) (ls1 : Array Slot), g_X11_restore T 0 (xs (i + 1)) = some (k1, r1, T1) → fr_restore Sm (xs (i + 1)) = some (r2, S1) → ad2 0 = ad 0 → IV aR0 1586 aK1 aK2 T1 → RC T1 → JJ S1 → gL cI cJ cZ cMic cSrc cSt cAI cAJ D ad2 (fun q => s.heap.size ≤ q) s.heap H1 locs1 T1 (oJ aj cJ f1 :: oD ae cD g1 :: MW cI cJ cZ am S1) → lv_has ls1 9 [(5, .int (nI i)), (4, .ref ae), (3, .ref aj), (2, .ref (am 0)), (1, .ref (ad2 0)), (0, .ref b)] → W p l e room_1 s m #[Value.ref b] below meth c H1 locs1 (19 + T1.1 + (j + 1)) (38467 + sg T1 + 6 * (j + 1)) Q (F0 m 2439 ls1 [])) : W p l e room_1 s m #[Value.ref b] below meth c H locs (19 + T.1 + j) (38467 + sg T + 6 * j) Q (F0 m 2411 ls []) := by
  have E : cE p c cL_law s m #[Value.ref b] lw_tbl D RL (CT cI cJ cZ cMic cSrc cSt cAI cAJ ++ [(cD, .double)]) := ⟨hx, hb, hts, hown, hK⟩
  have hA : ∀ q : Nat, s.heap.size ≤ q → s.heap.size ≤ q := fun _ h => h
  have h0T : 0 < T.1 := Nat.lt_of_lt_of_le (by decide) hV.1.2.2
  have h0s : T.2.1 0 = (11, 0) := hV.2.1 0 ⟨by decide, by decide +kernel, by decide +kernel⟩
  refine lv_aload_n hx hb dL_law_2411 rfl (lv_at hl 4 rfl) ?_
  refine lv_aload_n hx hb dL_law_2412 rfl (lv_at hl 5 rfl) ?_
  refine lv_iload hx hb dL_law_2413 (lv_at hl 0 rfl) ?_
  refine lv_iconst (v := 1) hx hb dL_law_2415 (by decide) ?_
  refine lv_iadd hx hb dL_law_2416 ?_
  refine lv_to (y := nI (i + 1)) (nI_add i 1) ?_
  refine va_sld hx hb hX0 hbl (Nat.not_le.mpr hbl) G.2.2 (i := nI (i + 1)) (vp_in_nI (n := i + 1) (N := L) (by omega) (by omega)) dL_law_2417 ?_
  refine lv_to (y := xs (i + 1)) (congrArg xs (nI_clamp (by omega))) ?_
  refine lv_aload_n hx hb dL_law_2418 rfl (lv_at hl 2 rfl) ?_
  obtain ⟨⟨k1, r1, T1⟩, hg, hc⟩ := cs_X11_restore T 0 (xs (i + 1)) hV (by decide +kernel)
  have hV1 : IV aR0 1586 aK1 aK2 T1 := hc.1.1
  have hg1 := s_X11_restore hg
  have hg2 := sg_le hg1
  have hg3 := hg1.1
  have hk := hV1.2.2.2.2.2.2
  have hrc1 := hg1.2.2 hrc
  have hr0 := a_room
  refine l_v (h0 := s.heap.size) (As := [.ref (ad 0), .int (xs (i + 1)), .ref aj]) (rest := []) E G hA hX hN (fun _ h => h) hTS hml (v_restore l hst D s.heap.size ad T 0 (xs (i + 1)) aj f hg hrc h0T h0s) (vx_cwSW 3 hts (glA (L := [Cond.methodLink RL 404 yL_restore, Cond.static yL_restore, Cond.initialized RL]) (gl_in [(7, 201), (7, 202), (1, 0)] (by decide +kernel) (by decide +kernel)) ⟨(t_of [Cond.codeWith yL_restore cL_restore 4 (some .int) [(0, 9, 12, 13), (0, 9, 15, 21)]] [(7, 203)] (by decide +kernel) _ List.mem_cons_self), List.all_eq_true.mp (by decide +kernel : [Cond.codeWith yL_restore cL_restore 4 (some .int) [(0, 9, 12, 13), (0, 9, 15, 21)]].all goodWord = true) _ List.mem_cons_self⟩) rfl rfl rfl (by decide +kernel) ⟨Nat.le_of_ble_eq_true rfl, Nat.le_of_ble_eq_true rfl⟩) rfl hl.1 rfl (lv_room (Nat.le_of_ble_eq_true rfl)) dL_law_2419 ⟨by show _ ≤ 601024; omega, by show _ ≤ 7293034; omega⟩ ?_
  intro ad2 H locs had G
  rw [← had 0 h0T] at hl
  refine lv_istore (lv' := [(6, .int (vck 2 1 0 k1)), (5, .int (nI i)), (4, .ref ae), (3, .ref aj), (2, .ref (am 0)), (1, .ref (ad2 0)), (0, .ref b)]) hx hb dL_law_2422 hl (by decide) rfl (fun ls hl => ?_)
  refine lv_aload_n hx hb dL_law_2424 rfl (lv_at hl 4 rfl) ?_
  refine lv_aload_n hx hb dL_law_2425 rfl (lv_at hl 6 rfl) ?_
  refine lv_iload hx hb dL_law_2426 (lv_at hl 1 rfl) ?_
  refine lv_iconst (v := 1) hx hb dL_law_2428 (by decide) ?_
  refine lv_iadd hx hb dL_law_2429 ?_
  refine lv_to (y := nI (i + 1)) (nI_add i 1) ?_
  refine va_sld hx hb hX0 hbl (Nat.not_le.mpr hbl) G.2.2 (i := nI (i + 1)) (vp_in_nI (n := i + 1) (N := L) (by omega) (by omega)) dL_law_2430 ?_
  refine lv_to (y := xs (i + 1)) (congrArg xs (nI_clamp (by omega))) ?_
  obtain ⟨⟨r2, S1⟩, hf, hj⟩ := sj_restore Sm (xs (i + 1)) hJ
  have hJ1 : JJ S1 := hj
  refine y_mi (As := [.int (xs (i + 1))]) (rest := []) E G hA hX.2.2.2.2 hml (tr_restore l D cI cJ cZ am Sm (xs (i + 1)) hf) (cwV 1 hts (glM (L := [Cond.methodLink RL 406 yX12_restore, Cond.instanceMethod yX12_restore, Cond.selects RX12 yX12_restore yX12_restore, Cond.initialized RX12]) (gl_in [(10, 209), (10, 210), (10, 211), (1, 14)] (by decide +kernel) (by decide +kernel)) ⟨(t_of [Cond.code yX12_restore cX12_restore 2 (some .int)] [(10, 212)] (by decide +kernel) _ List.mem_cons_self), List.all_eq_true.mp (by decide +kernel : [Cond.code yX12_restore cX12_restore 2 (some .int)].all goodWord = true) _ List.mem_cons_self⟩) rfl rfl rfl (by decide +kernel) ⟨Nat.le_of_ble_eq_true rfl, Nat.le_of_ble_eq_true rfl⟩) rfl hl.1 rfl (lv_room (Nat.le_of_ble_eq_true rfl)) dL_law_2431 ⟨by show _ ≤ 601024; omega, by show _ ≤ 7293034; omega⟩ (fun H locs G => ?_)
  refine lv_istore (lv' := [(7, .int r2), (6, .int (vck 2 1 0 k1)), (5, .int (nI i)), (4, .ref ae), (3, .ref aj), (2, .ref (am 0)), (1, .ref (ad2 0)), (0, .ref b)]) hx hb dL_law_2434 hl (by decide) rfl (fun ls hl => ?_)
  refine lv_goto (tgt := 2439) hx hb dL_law_2436 (by decide) ?_
  have hl := lv_sub hl [2, 3, 4, 5, 6, 7] rfl
  refine W.widen (k := 19 + T1.1 + (j + 1)) (n := 38467 + sg T1 + 6 * (j + 1)) (by omega) (by omega) ?_
  exact kk ad2 (vfJ k1 f r1.toInt64) g H locs ls hg hf (had 0 h0T) hV1 hrc1 hJ1 G hl
end
section
/-! 18a.rel.lean.txt -/
theorem tgo {α : Type} {x : Option α} {P : α → Prop} {a : α} (h : Tot x P) (e : x = some a) : P a := by
  obtain ⟨b, e2, q⟩ := h
  rw [e] at e2
  cases e2
  exact q
end
section
/-! 18b.gr.lean.txt -/
/-- the references that don't change: all but those of rows of Wides -/
def GR (T T1 : AT) : Prop := GL T T1 ∧ ∀ n k, n < T.1 → (T.2.1 n).1 ≠ 107 → T1.2.2.2.2 n k = T.2.2.2.2 n k
theorem GR.rf (T : AT) : GR T T := ⟨GL.rf T, fun _ _ _ _ => rfl⟩
theorem GR.tr {T T1 T2 : AT} (h : GR T T1) (k : GR T1 T2) : GR T T2 := ⟨h.1.tr k.1, fun n j hn a => (k.2 n j (Nat.lt_of_lt_of_le hn h.1.1) (by rw [h.1.2.1 n hn]; exact a)).trans (h.2 n j hn a)⟩
theorem gr_sp {T T1 : AT} (h : SP T T1) : GR T T1 := ⟨gl_sp h, fun n k _ _ => by rw [h.2.2]⟩
theorem gr_uR {T : AT} {n k x : Nat} (hx : x < T.1) (hn : (T.2.1 n).1 = 107) : GR T (uR T n k x) := ⟨gl_uR hx, fun m j _ a => by
  show va_up T.2.2.2.2 n _ m j = _
  rw [va_up_ne _ _ (fun e => a (by rw [e]; exact hn))]⟩
theorem gr_newJ {T : AT} {K : Nat} : GR T (newJ T K) := ⟨gl_newJ, fun _ _ _ _ => rfl⟩
set_option maxHeartbeats 4000000 in
set_option maxRecDepth 100000 in
theorem sr_X10_widenTo_b108 {T1 : AT} : ∀ (T : AT), g_X10_widenTo_b108 T = some T1 → GR T T1 := by
  intro T h
  have p0 := GR.rf T
  unfold g_X10_widenTo_b108 at h
  rw [← osome1 h]
  exact p0
set_option maxHeartbeats 4000000 in
set_option maxRecDepth 100000 in
theorem sr_X10_widenTo_b40 {T1 : AT} {k5 : AT → Nat → Int32 → Int32 → Option (AT)} (hk5 : ∀ (T : AT) (l0 : Nat) (l1 : Int32) (l2 : Int32), k5 T l0 l1 l2 = some T1 → GR T T1) : ∀ n : Nat, ∀ (T : AT) (l0 : Nat) (l1 : Int32) (l2 : Int32) (l3 : Int32), g_X10_widenTo_b40 k5 n T l0 l1 l2 l3 = some T1 → GR T T1 := by
  intro n
  induction n with
  | zero =>
    intro T l0 l1 l2 l3 h
    have h : (none : Option (AT)) = some T1 := h
    cases h
  | succ n ih =>
    intro T l0 l1 l2 l3 h
    have p0 := GR.rf T
    unfold g_X10_widenTo_b40 at h
    obtain ⟨g2, h⟩ := oif_some h
    obtain ⟨v3, -, h⟩ := elet_some h
    rcases oif_or h with ⟨c4, h⟩ | ⟨c4, h⟩
    · have h := h
      obtain ⟨v5, -, h⟩ := elet_some h
      obtain ⟨g6, h⟩ := oif_some h
      obtain ⟨T7, eT7, h⟩ := elet_some h
      have p1 : GR T T7 := GR.tr p0 (by rw [eT7]; exact gr_sp sp_uI)
      obtain ⟨v8, ev8, h⟩ := elet_some h
      exact GR.tr p1 (hk5 _ _ _ _ h)
    · have h := h
      obtain ⟨g9, h⟩ := oif_some h
      obtain ⟨n10, en10, h⟩ := obind_some h
      obtain ⟨v11, -, h⟩ := elet_some h
      obtain ⟨g12, h⟩ := oif_some h
      obtain ⟨g13, h⟩ := oif_some h
      obtain ⟨n14, en14, h⟩ := obind_some h
      obtain ⟨g15, h⟩ := oif_some h
      obtain ⟨g16, h⟩ := oif_some h
      obtain ⟨v17, -, h⟩ := elet_some h
      obtain ⟨g18, h⟩ := oif_some h
      obtain ⟨n19, en19, h⟩ := obind_some h
      obtain ⟨v20, -, h⟩ := elet_some h
      obtain ⟨g21, h⟩ := oif_some h
      obtain ⟨g22, h⟩ := oif_some h
      obtain ⟨n23, en23, h⟩ := obind_some h
      obtain ⟨v24, -, h⟩ := elet_some h
      obtain ⟨g25, h⟩ := oif_some h
      obtain ⟨g26, h⟩ := oif_some h
      obtain ⟨T27, eT27, h⟩ := elet_some h
      have p1 : GR T T27 := GR.tr p0 (by rw [eT27]; exact gr_sp sp_uJ)
      obtain ⟨g28, h⟩ := oif_some h
      obtain ⟨n29, en29, h⟩ := obind_some h
      obtain ⟨g30, h⟩ := oif_some h
      obtain ⟨g31, h⟩ := oif_some h
      obtain ⟨n32, en32, h⟩ := obind_some h
      obtain ⟨v33, -, h⟩ := elet_some h
      obtain ⟨g34, h⟩ := oif_some h
      obtain ⟨g35, h⟩ := oif_some h
      obtain ⟨T36, eT36, h⟩ := elet_some h
      have p2 : GR T T36 := GR.tr p1 (by rw [eT36]; exact gr_sp sp_uJ)
      obtain ⟨v37, ev37, h⟩ := elet_some h
      exact GR.tr p2 (ih _ _ _ _ _ h)
set_option maxHeartbeats 4000000 in
set_option maxRecDepth 100000 in
theorem sr_X10_widenTo_b38 {T1 : AT} {k5 : AT → Nat → Int32 → Int32 → Option (AT)} (hk5 : ∀ (T : AT) (l0 : Nat) (l1 : Int32) (l2 : Int32), k5 T l0 l1 l2 = some T1 → GR T T1) : ∀ (T : AT) (l0 : Nat) (l1 : Int32) (l2 : Int32), g_X10_widenTo_b38 k5 T l0 l1 l2 = some T1 → GR T T1 := by
  intro T l0 l1 l2 h
  have p0 := GR.rf T
  unfold g_X10_widenTo_b38 at h
  exact GR.tr p0 (sr_X10_widenTo_b40 hk5 _ _ _ _ _ _ h)
set_option maxHeartbeats 4000000 in
set_option maxRecDepth 100000 in
theorem sr_X10_widenTo_b37 {T1 : AT} {k5 : AT → Nat → Int32 → Int32 → Option (AT)} (hk5 : ∀ (T : AT) (l0 : Nat) (l1 : Int32) (l2 : Int32), k5 T l0 l1 l2 = some T1 → GR T T1) : ∀ (T : AT) (s0 : Nat) (s1 : Int32) (s2 : Nat) (l0 : Nat) (l1 : Int32) (l2 : Int32), g_X10_widenTo_b37 k5 T s0 s1 s2 l0 l1 l2 = some T1 → GR T T1 := by
  intro T s0 s1 s2 l0 l1 l2 h
  have p0 := GR.rf T
  unfold g_X10_widenTo_b37 at h
  obtain ⟨g2, h⟩ := oif_some h
  obtain ⟨g3, h⟩ := oif_some h
  obtain ⟨g4, h⟩ := oif_some h
  obtain ⟨T5, eT5, h⟩ := elet_some h
  have p1 : GR T T5 := GR.tr p0 (by rw [eT5]; exact gr_uR (aA_k g4).1 (aA_k g2).2.1)
  exact GR.tr p1 (sr_X10_widenTo_b38 hk5 _ _ _ _ h)
set_option maxHeartbeats 4000000 in
set_option maxRecDepth 100000 in
theorem sr_X10_widenTo_b5 {T1 : AT} : ∀ n : Nat, ∀ (T : AT) (l0 : Nat) (l1 : Int32) (l2 : Int32), g_X10_widenTo_b5 n T l0 l1 l2 = some T1 → GR T T1 := by
  intro n
  induction n with
  | zero =>
    intro T l0 l1 l2 h
    have h : (none : Option (AT)) = some T1 := h
    cases h
  | succ n ih =>
    intro T l0 l1 l2 h
    have p0 := GR.rf T
    unfold g_X10_widenTo_b5 at h
    rcases oif_or h with ⟨c2, h⟩ | ⟨c2, h⟩
    · have h := h
      exact GR.tr p0 (sr_X10_widenTo_b108 _ h)
    · have h := h
      rcases oif_or h with ⟨c3, h⟩ | ⟨c3, h⟩
      · have h := h
        exact GR.tr p0 (sr_X10_widenTo_b108 _ h)
      · have h := h
        obtain ⟨g4, h⟩ := oif_some h
        obtain ⟨n5, en5, h⟩ := obind_some h
        obtain ⟨g6, h⟩ := oif_some h
        obtain ⟨g7, h⟩ := oif_some h
        obtain ⟨n8, en8, h⟩ := obind_some h
        obtain ⟨g9, h⟩ := oif_some h
        obtain ⟨v10, -, h⟩ := elet_some h
        rcases oif_or h with ⟨c11, h⟩ | ⟨c11, h⟩
        · have h := h
          obtain ⟨g12, h⟩ := oif_some h
          obtain ⟨n13, en13, h⟩ := obind_some h
          obtain ⟨g14, h⟩ := oif_some h
          obtain ⟨v15, -, h⟩ := elet_some h
          obtain ⟨g16, h⟩ := oif_some h
          obtain ⟨T17, eT17, h⟩ := elet_some h
          have p1 : GR T T17 := GR.tr p0 (by rw [eT17]; exact gr_newJ)
          exact GR.tr p1 (sr_X10_widenTo_b37 ih _ _ _ _ _ _ _ h)
        · have h := h
          exact GR.tr p0 (sr_X10_widenTo_b38 ih _ _ _ _ h)
set_option maxHeartbeats 4000000 in
set_option maxRecDepth 100000 in
theorem sr_X10_widenTo {T : AT} {o : Nat} {a0 : Int32} {T1 : AT} (h : g_X10_widenTo T o a0 = some T1) : GR T T1 := by
  have p0 := GR.rf T
  unfold g_X10_widenTo at h
  obtain ⟨g2, h⟩ := oif_some h
  obtain ⟨v3, -, h⟩ := elet_some h
  exact GR.tr p0 (sr_X10_widenTo_b5 _ _ _ _ _ h)
set_option maxHeartbeats 4000000 in
set_option maxRecDepth 100000 in
theorem sr_X10_settle_b99 {T1 : AT} : ∀ (T : AT), g_X10_settle_b99 T = some T1 → GR T T1 := by
  intro T h
  have p0 := GR.rf T
  unfold g_X10_settle_b99 at h
  rw [← osome1 h]
  exact p0
set_option maxHeartbeats 4000000 in
set_option maxRecDepth 100000 in
theorem sr_X10_settle_b93 {T1 : AT} {k64 : AT → Nat → Int32 → Int32 → Option (AT)} (hk64 : ∀ (T : AT) (l0 : Nat) (l1 : Int32) (l2 : Int32), k64 T l0 l1 l2 = some T1 → GR T T1) : ∀ (T : AT) (l0 : Nat) (l1 : Int32) (l2 : Int32), g_X10_settle_b93 k64 T l0 l1 l2 = some T1 → GR T T1 := by
  intro T l0 l1 l2 h
  have p0 := GR.rf T
  unfold g_X10_settle_b93 at h
  obtain ⟨v2, ev2, h⟩ := elet_some h
  exact GR.tr p0 (hk64 _ _ _ _ h)
set_option maxHeartbeats 4000000 in
set_option maxRecDepth 100000 in
theorem sr_X10_settle_b64 {T1 : AT} : ∀ n : Nat, ∀ (T : AT) (l0 : Nat) (l1 : Int32) (l2 : Int32), g_X10_settle_b64 n T l0 l1 l2 = some T1 → GR T T1 := by
  intro n
  induction n with
  | zero =>
    intro T l0 l1 l2 h
    have h : (none : Option (AT)) = some T1 := h
    cases h
  | succ n ih =>
    intro T l0 l1 l2 h
    have p0 := GR.rf T
    unfold g_X10_settle_b64 at h
    obtain ⟨v2, -, h⟩ := elet_some h
    rcases oif_or h with ⟨c3, h⟩ | ⟨c3, h⟩
    · have h := h
      exact GR.tr p0 (sr_X10_settle_b99 _ h)
    · have h := h
      obtain ⟨g4, h⟩ := oif_some h
      obtain ⟨n5, en5, h⟩ := obind_some h
      obtain ⟨g6, h⟩ := oif_some h
      obtain ⟨g7, h⟩ := oif_some h
      obtain ⟨n8, en8, h⟩ := obind_some h
      obtain ⟨g9, h⟩ := oif_some h
      obtain ⟨g10, h⟩ := oif_some h
      obtain ⟨v11, -, h⟩ := elet_some h
      obtain ⟨r12, -, h⟩ := obind_some h
      rcases oif_or h with ⟨c13, h⟩ | ⟨c13, h⟩
      · have h := h
        exact GR.tr p0 (sr_X10_settle_b99 _ h)
      · have h := h
        obtain ⟨v14, -, h⟩ := elet_some h
        obtain ⟨g15, h⟩ := oif_some h
        obtain ⟨T16, eT16, h⟩ := obind_some h
        have p1 : GR T T16 := GR.tr p0 (sr_X10_widenTo eT16)
        exact GR.tr p1 (sr_X10_settle_b93 ih _ _ _ _ h)
set_option maxHeartbeats 4000000 in
set_option maxRecDepth 100000 in
theorem sr_X10_settle_b2 {T1 : AT} : ∀ n : Nat, ∀ (T : AT) (l0 : Nat) (l1 : Int32) (l2 : Int32), g_X10_settle_b2 n T l0 l1 l2 = some T1 → GR T T1 := by
  intro n
  induction n with
  | zero =>
    intro T l0 l1 l2 h
    have h : (none : Option (AT)) = some T1 := h
    cases h
  | succ n ih =>
    intro T l0 l1 l2 h
    have p0 := GR.rf T
    unfold g_X10_settle_b2 at h
    obtain ⟨v2, -, h⟩ := elet_some h
    obtain ⟨g3, h⟩ := oif_some h
    obtain ⟨v4, -, h⟩ := elet_some h
    rcases oif_or h with ⟨c5, h⟩ | ⟨c5, h⟩
    · have h := h
      obtain ⟨g6, h⟩ := oif_some h
      obtain ⟨v7, -, h⟩ := elet_some h
      obtain ⟨v8, -, h⟩ := elet_some h
      exact GR.tr p0 (sr_X10_settle_b64 _ _ _ _ _ h)
    · have h := h
      obtain ⟨g9, h⟩ := oif_some h
      obtain ⟨n10, en10, h⟩ := obind_some h
      obtain ⟨g11, h⟩ := oif_some h
      obtain ⟨g12, h⟩ := oif_some h
      obtain ⟨n13, en13, h⟩ := obind_some h
      obtain ⟨g14, h⟩ := oif_some h
      obtain ⟨g15, h⟩ := oif_some h
      obtain ⟨v16, -, h⟩ := elet_some h
      obtain ⟨g17, h⟩ := oif_some h
      obtain ⟨n18, en18, h⟩ := obind_some h
      obtain ⟨g19, h⟩ := oif_some h
      obtain ⟨g20, h⟩ := oif_some h
      obtain ⟨n21, en21, h⟩ := obind_some h
      obtain ⟨v22, -, h⟩ := elet_some h
      obtain ⟨g23, h⟩ := oif_some h
      obtain ⟨g24, h⟩ := oif_some h
      obtain ⟨T25, eT25, h⟩ := elet_some h
      have p1 : GR T T25 := GR.tr p0 (by rw [eT25]; exact gr_sp sp_uJ)
      obtain ⟨g26, h⟩ := oif_some h
      obtain ⟨n27, en27, h⟩ := obind_some h
      obtain ⟨v28, -, h⟩ := elet_some h
      obtain ⟨g29, h⟩ := oif_some h
      obtain ⟨g30, h⟩ := oif_some h
      obtain ⟨n31, en31, h⟩ := obind_some h
      obtain ⟨g32, h⟩ := oif_some h
      obtain ⟨g33, h⟩ := oif_some h
      obtain ⟨v34, -, h⟩ := elet_some h
      obtain ⟨v35, -, h⟩ := elet_some h
      obtain ⟨v36, -, h⟩ := elet_some h
      obtain ⟨g37, h⟩ := oif_some h
      obtain ⟨g38, h⟩ := oif_some h
      obtain ⟨T39, eT39, h⟩ := elet_some h
      have p2 : GR T T39 := GR.tr p1 (by rw [eT39]; exact gr_sp sp_uJ)
      obtain ⟨v40, ev40, h⟩ := elet_some h
      exact GR.tr p2 (ih _ _ _ _ h)
set_option maxHeartbeats 4000000 in
set_option maxRecDepth 100000 in
theorem sr_X10_settle {T : AT} {o : Nat} {a0 : Int32} {T1 : AT} (h : g_X10_settle T o a0 = some T1) : GR T T1 := by
  have p0 := GR.rf T
  unfold g_X10_settle at h
  exact GR.tr p0 (sr_X10_settle_b2 _ _ _ _ _ h)
set_option maxHeartbeats 4000000 in
set_option maxRecDepth 100000 in
theorem sr_X10_divide_b121 {T1 : AT} : ∀ (T : AT), g_X10_divide_b121 T = some T1 → GR T T1 := by
  intro T h
  have p0 := GR.rf T
  unfold g_X10_divide_b121 at h
  rw [← osome1 h]
  exact p0
set_option maxHeartbeats 4000000 in
set_option maxRecDepth 100000 in
theorem sr_X10_divide_b40 {T1 : AT} : ∀ n : Nat, ∀ (T : AT) (l0 : Nat) (l1 : Int32) (l2 : Int32) (l3 : Int32) (l4 : Int64) (l6 : Int32), g_X10_divide_b40 n T l0 l1 l2 l3 l4 l6 = some T1 → GR T T1 := by
  intro n
  induction n with
  | zero =>
    intro T l0 l1 l2 l3 l4 l6 h
    have h : (none : Option (AT)) = some T1 := h
    cases h
  | succ n ih =>
    intro T l0 l1 l2 l3 l4 l6 h
    have p0 := GR.rf T
    unfold g_X10_divide_b40 at h
    rcases oif_or h with ⟨c2, h⟩ | ⟨c2, h⟩
    · have h := h
      rcases oif_or h with ⟨c3, h⟩ | ⟨c3, h⟩
      · have h := h
        exact GR.tr p0 (sr_X10_divide_b121 _ h)
      · have h := h
        obtain ⟨v4, -, h⟩ := elet_some h
        rcases oif_or h with ⟨c5, h⟩ | ⟨c5, h⟩
        · have h := h
          exact GR.tr p0 (sr_X10_divide_b121 _ h)
        · have h := h
          obtain ⟨g6, h⟩ := oif_some h
          obtain ⟨n7, en7, h⟩ := obind_some h
          obtain ⟨g8, h⟩ := oif_some h
          obtain ⟨g9, h⟩ := oif_some h
          obtain ⟨n10, en10, h⟩ := obind_some h
          obtain ⟨g11, h⟩ := oif_some h
          obtain ⟨g12, h⟩ := oif_some h
          obtain ⟨v13, -, h⟩ := elet_some h
          obtain ⟨v14, -, h⟩ := elet_some h
          obtain ⟨g15, h⟩ := oif_some h
          obtain ⟨g16, h⟩ := oif_some h
          obtain ⟨T17, eT17, h⟩ := elet_some h
          have p1 : GR T T17 := GR.tr p0 (by rw [eT17]; exact gr_sp sp_uJ)
          obtain ⟨g18, h⟩ := oif_some h
          obtain ⟨T19, eT19, h⟩ := obind_some h
          have p2 : GR T T19 := GR.tr p1 (sr_X10_settle eT19)
          exact GR.tr p2 (sr_X10_divide_b121 _ h)
    · have h := h
      obtain ⟨v21, -, h⟩ := elet_some h
      obtain ⟨g22, h⟩ := oif_some h
      obtain ⟨n23, en23, h⟩ := obind_some h
      obtain ⟨g24, h⟩ := oif_some h
      obtain ⟨g25, h⟩ := oif_some h
      obtain ⟨n26, en26, h⟩ := obind_some h
      obtain ⟨g27, h⟩ := oif_some h
      obtain ⟨g28, h⟩ := oif_some h
      obtain ⟨v29, -, h⟩ := elet_some h
      obtain ⟨v30, -, h⟩ := elet_some h
      obtain ⟨g31, h⟩ := oif_some h
      obtain ⟨n32, en32, h⟩ := obind_some h
      obtain ⟨g33, h⟩ := oif_some h
      obtain ⟨g34, h⟩ := oif_some h
      obtain ⟨n35, en35, h⟩ := obind_some h
      obtain ⟨v36, -, h⟩ := elet_some h
      obtain ⟨r37, -, h⟩ := obind_some h
      obtain ⟨g38, h⟩ := oif_some h
      obtain ⟨g39, h⟩ := oif_some h
      obtain ⟨T40, eT40, h⟩ := elet_some h
      have p1 : GR T T40 := GR.tr p0 (by rw [eT40]; exact gr_sp sp_uJ)
      obtain ⟨v41, -, h⟩ := elet_some h
      obtain ⟨r42, -, h⟩ := obind_some h
      obtain ⟨v43, ev43, h⟩ := elet_some h
      exact GR.tr p1 (ih _ _ _ _ _ _ _ h)
set_option maxHeartbeats 4000000 in
set_option maxRecDepth 100000 in
theorem sr_X10_divide_b28 {T1 : AT} : ∀ (T : AT) (s0 : Int32) (l0 : Nat) (l1 : Int32) (l2 : Int32), g_X10_divide_b28 T s0 l0 l1 l2 = some T1 → GR T T1 := by
  intro T s0 l0 l1 l2 h
  have p0 := GR.rf T
  unfold g_X10_divide_b28 at h
  obtain ⟨g2, h⟩ := oif_some h
  obtain ⟨v3, -, h⟩ := elet_some h
  obtain ⟨v4, -, h⟩ := elet_some h
  exact GR.tr p0 (sr_X10_divide_b40 _ _ _ _ _ _ _ _ h)
set_option maxHeartbeats 4000000 in
set_option maxRecDepth 100000 in
theorem sr_X10_divide {T : AT} {o : Nat} {a0 : Int32} {a1 : Int32} {T1 : AT} (h : g_X10_divide T o a0 a1 = some T1) : GR T T1 := by
  have p0 := GR.rf T
  unfold g_X10_divide at h
  rcases oif_or h with ⟨c2, h⟩ | ⟨c2, h⟩
  · have h := h
    obtain ⟨g3, h⟩ := oif_some h
    obtain ⟨n4, en4, h⟩ := obind_some h
    obtain ⟨g5, h⟩ := oif_some h
    obtain ⟨v6, -, h⟩ := elet_some h
    obtain ⟨v7, -, h⟩ := elet_some h
    obtain ⟨g8, h⟩ := oif_some h
    obtain ⟨g9, h⟩ := oif_some h
    obtain ⟨n10, en10, h⟩ := obind_some h
    obtain ⟨g11, h⟩ := oif_some h
    obtain ⟨g12, h⟩ := oif_some h
    obtain ⟨v13, -, h⟩ := elet_some h
    obtain ⟨v14, -, h⟩ := elet_some h
    rcases oif_or h with ⟨c15, h⟩ | ⟨c15, h⟩
    · have h := h
      exact GR.tr p0 (sr_X10_divide_b28 _ _ _ _ _ h)
    · have h := h
      exact GR.tr p0 (sr_X10_divide_b28 _ _ _ _ _ h)
  · have h := h
    rw [← osome1 h]
    exact p0
set_option maxHeartbeats 4000000 in
set_option maxRecDepth 100000 in
theorem sr_X8_focus_b74 {T1 : AT} : ∀ (T : AT), g_X8_focus_b74 T = some T1 → GR T T1 := by
  intro T h
  have p0 := GR.rf T
  unfold g_X8_focus_b74 at h
  rw [← osome1 h]
  exact p0
set_option maxHeartbeats 4000000 in
set_option maxRecDepth 100000 in
theorem sr_X8_focus_b23 {T1 : AT} : ∀ n : Nat, ∀ (T : AT) (l0 : Nat) (l1 : Nat) (l2 : Int32) (l3 : Int32), g_X8_focus_b23 n T l0 l1 l2 l3 = some T1 → GR T T1 := by
  intro n
  induction n with
  | zero =>
    intro T l0 l1 l2 l3 h
    have h : (none : Option (AT)) = some T1 := h
    cases h
  | succ n ih =>
    intro T l0 l1 l2 l3 h
    have p0 := GR.rf T
    unfold g_X8_focus_b23 at h
    obtain ⟨g2, h⟩ := oif_some h
    obtain ⟨n3, en3, h⟩ := obind_some h
    obtain ⟨g4, h⟩ := oif_some h
    obtain ⟨v5, -, h⟩ := elet_some h
    rcases oif_or h with ⟨c6, h⟩ | ⟨c6, h⟩
    · have h := h
      obtain ⟨g7, h⟩ := oif_some h
      obtain ⟨n8, en8, h⟩ := obind_some h
      obtain ⟨g9, h⟩ := oif_some h
      obtain ⟨T10, eT10, h⟩ := obind_some h
      have p1 : GR T T10 := GR.tr p0 (sr_X10_settle eT10)
      exact GR.tr p1 (sr_X8_focus_b74 _ h)
    · have h := h
      obtain ⟨g12, h⟩ := oif_some h
      obtain ⟨n13, en13, h⟩ := obind_some h
      obtain ⟨g14, h⟩ := oif_some h
      obtain ⟨n15, en15, h⟩ := obind_some h
      obtain ⟨g16, h⟩ := oif_some h
      obtain ⟨g17, h⟩ := oif_some h
      obtain ⟨n18, en18, h⟩ := obind_some h
      obtain ⟨g19, h⟩ := oif_some h
      obtain ⟨n20, en20, h⟩ := obind_some h
      obtain ⟨g21, h⟩ := oif_some h
      obtain ⟨n22, en22, h⟩ := obind_some h
      obtain ⟨g23, h⟩ := oif_some h
      obtain ⟨g24, h⟩ := oif_some h
      obtain ⟨n25, en25, h⟩ := obind_some h
      obtain ⟨g26, h⟩ := oif_some h
      obtain ⟨r28, T27, eT27, h⟩ := obind2_some h
      have p1 : GR T T27 := GR.tr p0 (gr_sp (s_X8_weighted eT27))
      obtain ⟨g29, h⟩ := oif_some h
      obtain ⟨g30, h⟩ := oif_some h
      obtain ⟨T31, eT31, h⟩ := elet_some h
      have p2 : GR T T31 := GR.tr p1 (by rw [eT31]; exact gr_sp sp_uJ)
      obtain ⟨v32, ev32, h⟩ := elet_some h
      exact GR.tr p2 (ih _ _ _ _ _ h)
set_option maxHeartbeats 4000000 in
set_option maxRecDepth 100000 in
theorem sr_X8_focus_b21 {T1 : AT} : ∀ (T : AT) (l0 : Nat) (l1 : Nat) (l2 : Int32), g_X8_focus_b21 T l0 l1 l2 = some T1 → GR T T1 := by
  intro T l0 l1 l2 h
  have p0 := GR.rf T
  unfold g_X8_focus_b21 at h
  exact GR.tr p0 (sr_X8_focus_b23 _ _ _ _ _ _ h)
set_option maxHeartbeats 4000000 in
set_option maxRecDepth 100000 in
theorem sr_X8_focus {T : AT} {o : Nat} {a0 : Nat} {a1 : Int32} {T1 : AT} (h : g_X8_focus T o a0 a1 = some T1) : GR T T1 := by
  have p0 := GR.rf T
  unfold g_X8_focus at h
  obtain ⟨g2, h⟩ := oif_some h
  obtain ⟨n3, en3, h⟩ := obind_some h
  obtain ⟨g4, h⟩ := oif_some h
  obtain ⟨T5, eT5, h⟩ := obind_some h
  have p1 : GR T T5 := GR.tr p0 (gr_sp (s_X10_narrow eT5))
  obtain ⟨g7, h⟩ := oif_some h
  obtain ⟨n8, en8, h⟩ := obind_some h
  obtain ⟨g9, h⟩ := oif_some h
  obtain ⟨n10, en10, h⟩ := obind_some h
  obtain ⟨g11, h⟩ := oif_some h
  obtain ⟨v12, -, h⟩ := elet_some h
  obtain ⟨g13, h⟩ := oif_some h
  obtain ⟨T14, eT14, h⟩ := obind_some h
  have p2 : GR T T14 := GR.tr p1 (sr_X10_widenTo eT14)
  exact GR.tr p2 (sr_X8_focus_b21 _ _ _ _ h)
set_option maxHeartbeats 4000000 in
set_option maxRecDepth 100000 in
theorem sr_X10_addProduct_b138 {T1 : AT} : ∀ (T : AT), g_X10_addProduct_b138 T = some T1 → GR T T1 := by
  intro T h
  have p0 := GR.rf T
  unfold g_X10_addProduct_b138 at h
  rw [← osome1 h]
  exact p0
set_option maxHeartbeats 4000000 in
set_option maxRecDepth 100000 in
theorem sr_X10_addProduct_b133 {T1 : AT} : ∀ (T : AT) (l0 : Nat) (l1 : Int32), g_X10_addProduct_b133 T l0 l1 = some T1 → GR T T1 := by
  intro T l0 l1 h
  have p0 := GR.rf T
  unfold g_X10_addProduct_b133 at h
  obtain ⟨g2, h⟩ := oif_some h
  obtain ⟨T3, eT3, h⟩ := obind_some h
  have p1 : GR T T3 := GR.tr p0 (sr_X10_settle eT3)
  exact GR.tr p1 (sr_X10_addProduct_b138 _ h)
set_option maxHeartbeats 4000000 in
set_option maxRecDepth 100000 in
theorem sr_X10_addProduct_b113 {T1 : AT} {k17 : AT → Nat → Int32 → Nat → Int32 → Nat → Int32 → Int32 → Option (AT)} (hk17 : ∀ (T : AT) (l0 : Nat) (l1 : Int32) (l2 : Nat) (l3 : Int32) (l4 : Nat) (l5 : Int32) (l6 : Int32), k17 T l0 l1 l2 l3 l4 l5 l6 = some T1 → GR T T1) : ∀ (T : AT) (l0 : Nat) (l1 : Int32) (l2 : Nat) (l3 : Int32) (l4 : Nat) (l5 : Int32) (l6 : Int32) (l7 : Int64), g_X10_addProduct_b113 k17 T l0 l1 l2 l3 l4 l5 l6 l7 = some T1 → GR T T1 := by
  intro T l0 l1 l2 l3 l4 l5 l6 l7 h
  have p0 := GR.rf T
  unfold g_X10_addProduct_b113 at h
  obtain ⟨g2, h⟩ := oif_some h
  obtain ⟨n3, en3, h⟩ := obind_some h
  obtain ⟨g4, h⟩ := oif_some h
  obtain ⟨g5, h⟩ := oif_some h
  obtain ⟨n6, en6, h⟩ := obind_some h
  obtain ⟨g7, h⟩ := oif_some h
  obtain ⟨g8, h⟩ := oif_some h
  obtain ⟨v9, -, h⟩ := elet_some h
  obtain ⟨v10, -, h⟩ := elet_some h
  obtain ⟨g11, h⟩ := oif_some h
  obtain ⟨g12, h⟩ := oif_some h
  obtain ⟨T13, eT13, h⟩ := elet_some h
  have p1 : GR T T13 := GR.tr p0 (by rw [eT13]; exact gr_sp sp_uJ)
  obtain ⟨v14, ev14, h⟩ := elet_some h
  exact GR.tr p1 (hk17 _ _ _ _ _ _ _ _ h)
set_option maxHeartbeats 4000000 in
set_option maxRecDepth 100000 in
theorem sr_X10_addProduct_b62 {T1 : AT} {k17 : AT → Nat → Int32 → Nat → Int32 → Nat → Int32 → Int32 → Option (AT)} (hk17 : ∀ (T : AT) (l0 : Nat) (l1 : Int32) (l2 : Nat) (l3 : Int32) (l4 : Nat) (l5 : Int32) (l6 : Int32), k17 T l0 l1 l2 l3 l4 l5 l6 = some T1 → GR T T1) : ∀ n : Nat, ∀ (T : AT) (l0 : Nat) (l1 : Int32) (l2 : Nat) (l3 : Int32) (l4 : Nat) (l5 : Int32) (l6 : Int32) (l7 : Int64) (l9 : Int32), g_X10_addProduct_b62 k17 n T l0 l1 l2 l3 l4 l5 l6 l7 l9 = some T1 → GR T T1 := by
  intro n
  induction n with
  | zero =>
    intro T l0 l1 l2 l3 l4 l5 l6 l7 l9 h
    have h : (none : Option (AT)) = some T1 := h
    cases h
  | succ n ih =>
    intro T l0 l1 l2 l3 l4 l5 l6 l7 l9 h
    have p0 := GR.rf T
    unfold g_X10_addProduct_b62 at h
    rcases oif_or h with ⟨c2, h⟩ | ⟨c2, h⟩
    · have h := h
      exact GR.tr p0 (sr_X10_addProduct_b113 hk17 _ _ _ _ _ _ _ _ _ h)
    · have h := h
      obtain ⟨g3, h⟩ := oif_some h
      obtain ⟨v4, -, h⟩ := elet_some h
      rcases oif_or h with ⟨c5, h⟩ | ⟨c5, h⟩
      · have h := h
        exact GR.tr p0 (sr_X10_addProduct_b113 hk17 _ _ _ _ _ _ _ _ _ h)
      · have h := h
        obtain ⟨g6, h⟩ := oif_some h
        obtain ⟨n7, en7, h⟩ := obind_some h
        obtain ⟨g8, h⟩ := oif_some h
        obtain ⟨g9, h⟩ := oif_some h
        obtain ⟨n10, en10, h⟩ := obind_some h
        obtain ⟨g11, h⟩ := oif_some h
        obtain ⟨g12, h⟩ := oif_some h
        obtain ⟨v13, -, h⟩ := elet_some h
        obtain ⟨g14, h⟩ := oif_some h
        obtain ⟨n15, en15, h⟩ := obind_some h
        obtain ⟨v16, -, h⟩ := elet_some h
        obtain ⟨g17, h⟩ := oif_some h
        obtain ⟨g18, h⟩ := oif_some h
        obtain ⟨n19, en19, h⟩ := obind_some h
        obtain ⟨g20, h⟩ := oif_some h
        obtain ⟨g21, h⟩ := oif_some h
        obtain ⟨v22, -, h⟩ := elet_some h
        obtain ⟨v23, -, h⟩ := elet_some h
        obtain ⟨v24, -, h⟩ := elet_some h
        obtain ⟨v25, ev25, h⟩ := elet_some h
        exact GR.tr p0 (ih _ _ _ _ _ _ _ _ _ _ h)
set_option maxHeartbeats 4000000 in
set_option maxRecDepth 100000 in
theorem sr_X10_addProduct_b17 {T1 : AT} : ∀ n : Nat, ∀ (T : AT) (l0 : Nat) (l1 : Int32) (l2 : Nat) (l3 : Int32) (l4 : Nat) (l5 : Int32) (l6 : Int32), g_X10_addProduct_b17 n T l0 l1 l2 l3 l4 l5 l6 = some T1 → GR T T1 := by
  intro n
  induction n with
  | zero =>
    intro T l0 l1 l2 l3 l4 l5 l6 h
    have h : (none : Option (AT)) = some T1 := h
    cases h
  | succ n ih =>
    intro T l0 l1 l2 l3 l4 l5 l6 h
    have p0 := GR.rf T
    unfold g_X10_addProduct_b17 at h
    obtain ⟨g2, h⟩ := oif_some h
    obtain ⟨v3, -, h⟩ := elet_some h
    rcases oif_or h with ⟨c4, h⟩ | ⟨c4, h⟩
    · have h := h
      exact GR.tr p0 (sr_X10_addProduct_b133 _ _ _ h)
    · have h := h
      obtain ⟨g5, h⟩ := oif_some h
      obtain ⟨v6, -, h⟩ := elet_some h
      obtain ⟨g7, h⟩ := oif_some h
      obtain ⟨v8, -, h⟩ := elet_some h
      obtain ⟨v9, -, h⟩ := elet_some h
      obtain ⟨v10, -, h⟩ := elet_some h
      rcases oif_or h with ⟨c11, h⟩ | ⟨c11, h⟩
      · have h := h
        exact GR.tr p0 (sr_X10_addProduct_b133 _ _ _ h)
      · have h := h
        obtain ⟨g12, h⟩ := oif_some h
        obtain ⟨v13, -, h⟩ := elet_some h
        obtain ⟨v14, -, h⟩ := elet_some h
        obtain ⟨v15, -, h⟩ := elet_some h
        obtain ⟨v16, -, h⟩ := elet_some h
        exact GR.tr p0 (sr_X10_addProduct_b62 ih _ _ _ _ _ _ _ _ _ _ _ h)
set_option maxHeartbeats 4000000 in
set_option maxRecDepth 100000 in
theorem sr_X10_addProduct_b14 {T1 : AT} : ∀ (T : AT) (l0 : Nat) (l1 : Int32) (l2 : Nat) (l3 : Int32) (l4 : Nat) (l5 : Int32), g_X10_addProduct_b14 T l0 l1 l2 l3 l4 l5 = some T1 → GR T T1 := by
  intro T l0 l1 l2 l3 l4 l5 h
  have p0 := GR.rf T
  unfold g_X10_addProduct_b14 at h
  exact GR.tr p0 (sr_X10_addProduct_b17 _ _ _ _ _ _ _ _ _ h)
set_option maxHeartbeats 4000000 in
set_option maxRecDepth 100000 in
theorem sr_X10_addProduct {T : AT} {o : Nat} {a0 : Int32} {a1 : Nat} {a2 : Int32} {a3 : Nat} {a4 : Int32} {T1 : AT} (h : g_X10_addProduct T o a0 a1 a2 a3 a4 = some T1) : GR T T1 := by
  have p0 := GR.rf T
  unfold g_X10_addProduct at h
  obtain ⟨g2, h⟩ := oif_some h
  obtain ⟨v3, -, h⟩ := elet_some h
  obtain ⟨g4, h⟩ := oif_some h
  obtain ⟨v5, -, h⟩ := elet_some h
  obtain ⟨v6, -, h⟩ := elet_some h
  obtain ⟨g7, h⟩ := oif_some h
  obtain ⟨T8, eT8, h⟩ := obind_some h
  have p1 : GR T T8 := GR.tr p0 (sr_X10_widenTo eT8)
  exact GR.tr p1 (sr_X10_addProduct_b14 _ _ _ _ _ _ _ h)
set_option maxHeartbeats 4000000 in
set_option maxRecDepth 100000 in
theorem sr_X8_blockPowerOf_b68 {T1 : AT} : ∀ (T : AT), g_X8_blockPowerOf_b68 T = some T1 → GR T T1 := by
  intro T h
  have p0 := GR.rf T
  unfold g_X8_blockPowerOf_b68 at h
  rw [← osome1 h]
  exact p0
set_option maxHeartbeats 4000000 in
set_option maxRecDepth 100000 in
theorem sr_X8_blockPowerOf_b54 {T1 : AT} {k23 : AT → Nat → Nat → Int32 → Nat → Int32 → Int32 → Int32 → Option (AT)} (hk23 : ∀ (T : AT) (l0 : Nat) (l1 : Nat) (l3 : Int32) (l4 : Nat) (l5 : Int32) (l6 : Int32) (l7 : Int32), k23 T l0 l1 l3 l4 l5 l6 l7 = some T1 → GR T T1) : ∀ (T : AT) (l0 : Nat) (l1 : Nat) (l3 : Int32) (l4 : Nat) (l5 : Int32) (l6 : Int32) (l7 : Int32), g_X8_blockPowerOf_b54 k23 T l0 l1 l3 l4 l5 l6 l7 = some T1 → GR T T1 := by
  intro T l0 l1 l3 l4 l5 l6 l7 h
  have p0 := GR.rf T
  unfold g_X8_blockPowerOf_b54 at h
  obtain ⟨v2, ev2, h⟩ := elet_some h
  exact GR.tr p0 (hk23 _ _ _ _ _ _ _ _ h)
set_option maxHeartbeats 4000000 in
set_option maxRecDepth 100000 in
theorem sr_X8_blockPowerOf_b37 {T1 : AT} {k23 : AT → Nat → Nat → Int32 → Nat → Int32 → Int32 → Int32 → Option (AT)} (hk23 : ∀ (T : AT) (l0 : Nat) (l1 : Nat) (l3 : Int32) (l4 : Nat) (l5 : Int32) (l6 : Int32) (l7 : Int32), k23 T l0 l1 l3 l4 l5 l6 l7 = some T1 → GR T T1) : ∀ (T : AT) (l0 : Nat) (l1 : Nat) (l3 : Int32) (l4 : Nat) (l5 : Int32) (l6 : Int32) (l7 : Int32), g_X8_blockPowerOf_b37 k23 T l0 l1 l3 l4 l5 l6 l7 = some T1 → GR T T1 := by
  intro T l0 l1 l3 l4 l5 l6 l7 h
  have p0 := GR.rf T
  unfold g_X8_blockPowerOf_b37 at h
  obtain ⟨g2, h⟩ := oif_some h
  obtain ⟨n3, en3, h⟩ := obind_some h
  obtain ⟨g4, h⟩ := oif_some h
  obtain ⟨n5, en5, h⟩ := obind_some h
  obtain ⟨g6, h⟩ := oif_some h
  obtain ⟨T7, eT7, h⟩ := obind_some h
  have p1 : GR T T7 := GR.tr p0 (sr_X10_addProduct eT7)
  exact GR.tr p1 (sr_X8_blockPowerOf_b54 hk23 _ _ _ _ _ _ _ _ h)
set_option maxHeartbeats 4000000 in
set_option maxRecDepth 100000 in
theorem sr_X8_blockPowerOf_b23 {T1 : AT} : ∀ n : Nat, ∀ (T : AT) (l0 : Nat) (l1 : Nat) (l3 : Int32) (l4 : Nat) (l5 : Int32) (l6 : Int32) (l7 : Int32), g_X8_blockPowerOf_b23 n T l0 l1 l3 l4 l5 l6 l7 = some T1 → GR T T1 := by
  intro n
  induction n with
  | zero =>
    intro T l0 l1 l3 l4 l5 l6 l7 h
    have h : (none : Option (AT)) = some T1 := h
    cases h
  | succ n ih =>
    intro T l0 l1 l3 l4 l5 l6 l7 h
    have p0 := GR.rf T
    unfold g_X8_blockPowerOf_b23 at h
    rcases oif_or h with ⟨c2, h⟩ | ⟨c2, h⟩
    · have h := h
      obtain ⟨g3, h⟩ := oif_some h
      obtain ⟨T4, eT4, h⟩ := obind_some h
      have p1 : GR T T4 := GR.tr p0 (sr_X10_divide eT4)
      exact GR.tr p1 (sr_X8_blockPowerOf_b68 _ h)
    · have h := h
      obtain ⟨g6, h⟩ := oif_some h
      obtain ⟨T7, eT7, h⟩ := obind_some h
      have p1 : GR T T7 := GR.tr p0 (sr_X8_focus eT7)
      exact GR.tr p1 (sr_X8_blockPowerOf_b37 ih _ _ _ _ _ _ _ _ h)
set_option maxHeartbeats 4000000 in
set_option maxRecDepth 100000 in
theorem sr_X8_blockPowerOf {T : AT} {o : Nat} {a0 : Nat} {a1 : Int32} {a2 : Int32} {a3 : Nat} {a4 : Int32} {T1 : AT} (h : g_X8_blockPowerOf T o a0 a1 a2 a3 a4 = some T1) : GR T T1 := by
  have p0 := GR.rf T
  unfold g_X8_blockPowerOf at h
  obtain ⟨v2, -, h⟩ := elet_some h
  obtain ⟨g3, h⟩ := oif_some h
  obtain ⟨r5, T4, eT4, h⟩ := obind2_some h
  have p1 : GR T T4 := GR.tr p0 (gr_sp (s_X8_windowOf eT4))
  obtain ⟨v6, -, h⟩ := elet_some h
  obtain ⟨g7, h⟩ := oif_some h
  obtain ⟨T8, eT8, h⟩ := obind_some h
  have p2 : GR T T8 := GR.tr p1 (gr_sp (s_X10_clear eT8))
  exact GR.tr p2 (sr_X8_blockPowerOf_b23 _ _ _ _ _ _ _ _ _ h)
set_option maxHeartbeats 4000000 in
set_option maxRecDepth 100000 in
theorem sr_X0_measure_b41 {T1 : AT} {k3 : AT → Nat → Nat → Nat → Int32 → Int32 → Int32 → Int32 → Option (AT)} (hk3 : ∀ (T : AT) (l0 : Nat) (l1 : Nat) (l2 : Nat) (l3 : Int32) (l4 : Int32) (l5 : Int32) (l6 : Int32), k3 T l0 l1 l2 l3 l4 l5 l6 = some T1 → GR T T1) : ∀ (T : AT) (l0 : Nat) (l1 : Nat) (l2 : Nat) (l3 : Int32) (l4 : Int32) (l5 : Int32) (l6 : Int32), g_X0_measure_b41 k3 T l0 l1 l2 l3 l4 l5 l6 = some T1 → GR T T1 := by
  intro T l0 l1 l2 l3 l4 l5 l6 h
  have p0 := GR.rf T
  unfold g_X0_measure_b41 at h
  obtain ⟨v2, ev2, h⟩ := elet_some h
  exact GR.tr p0 (hk3 _ _ _ _ _ _ _ _ h)
set_option maxHeartbeats 4000000 in
set_option maxRecDepth 100000 in
theorem sr_X0_measure_b3 {T1 : AT} : ∀ n : Nat, ∀ (T : AT) (l0 : Nat) (l1 : Nat) (l2 : Nat) (l3 : Int32) (l4 : Int32) (l5 : Int32) (l6 : Int32), g_X0_measure_b3 n T l0 l1 l2 l3 l4 l5 l6 = some T1 → GR T T1 := by
  intro n
  induction n with
  | zero =>
    intro T l0 l1 l2 l3 l4 l5 l6 h
    have h : (none : Option (AT)) = some T1 := h
    cases h
  | succ n ih =>
    intro T l0 l1 l2 l3 l4 l5 l6 h
    have p0 := GR.rf T
    unfold g_X0_measure_b3 at h
    obtain ⟨g2, h⟩ := oif_some h
    obtain ⟨n3, en3, h⟩ := obind_some h
    obtain ⟨g4, h⟩ := oif_some h
    obtain ⟨r6, T5, eT5, h⟩ := obind2_some h
    have p1 : GR T T5 := GR.tr p0 (gr_sp (s_X1_cells eT5))
    rcases oif_or h with ⟨c7, h⟩ | ⟨c7, h⟩
    · have h := h
      rw [← osome1 h]
      exact p1
    · have h := h
      obtain ⟨g8, h⟩ := oif_some h
      obtain ⟨n9, en9, h⟩ := obind_some h
      obtain ⟨g10, h⟩ := oif_some h
      obtain ⟨g11, h⟩ := oif_some h
      obtain ⟨n12, en12, h⟩ := obind_some h
      obtain ⟨g13, h⟩ := oif_some h
      obtain ⟨n14, en14, h⟩ := obind_some h
      obtain ⟨r15, -, h⟩ := obind_some h
      obtain ⟨v16, -, h⟩ := elet_some h
      obtain ⟨g17, h⟩ := oif_some h
      obtain ⟨T18, eT18, h⟩ := obind_some h
      have p2 : GR T T18 := GR.tr p1 (sr_X8_blockPowerOf eT18)
      exact GR.tr p2 (sr_X0_measure_b41 ih _ _ _ _ _ _ _ _ h)
set_option maxHeartbeats 4000000 in
set_option maxRecDepth 100000 in
theorem sr_X0_measure {T : AT} {o : Nat} {a0 : Nat} {a1 : Nat} {a2 : Int32} {a3 : Int32} {a4 : Int32} {T1 : AT} (h : g_X0_measure T o a0 a1 a2 a3 a4 = some T1) : GR T T1 := by
  have p0 := GR.rf T
  unfold g_X0_measure at h
  exact GR.tr p0 (sr_X0_measure_b3 _ _ _ _ _ _ _ _ _ h)
set_option maxHeartbeats 4000000 in
set_option maxRecDepth 100000 in
theorem sr_X0_bestOf_b17 {r1 : Int32} {T1 : AT} : ∀ (T : AT) (l0 : Nat) (l1 : Nat), g_X0_bestOf_b17 T l0 l1 = some (r1, T1) → GR T T1 := by
  intro T l0 l1 h
  have p0 := GR.rf T
  unfold g_X0_bestOf_b17 at h
  obtain ⟨g2, h⟩ := oif_some h
  obtain ⟨n3, en3, h⟩ := obind_some h
  obtain ⟨g4, h⟩ := oif_some h
  obtain ⟨n5, en5, h⟩ := obind_some h
  obtain ⟨g6, h⟩ := oif_some h
  obtain ⟨n7, en7, h⟩ := obind_some h
  obtain ⟨g8, h⟩ := oif_some h
  obtain ⟨n9, en9, h⟩ := obind_some h
  obtain ⟨g10, h⟩ := oif_some h
  obtain ⟨r12, T11, eT11, h⟩ := obind2_some h
  have p1 : GR T T11 := GR.tr p0 (gr_sp (s_X1_bestIn eT11))
  rw [← (osome2 h).2]
  exact p1
set_option maxHeartbeats 4000000 in
set_option maxRecDepth 100000 in
theorem sr_X0_bestOf {T : AT} {o : Nat} {a0 : Nat} {a1 : Nat} {a2 : Int32} {a3 : Int32} {r1 : Int32} {T1 : AT} (h : g_X0_bestOf T o a0 a1 a2 a3 = some (r1, T1)) : GR T T1 := by
  have p0 := GR.rf T
  unfold g_X0_bestOf at h
  obtain ⟨g2, h⟩ := oif_some h
  obtain ⟨n3, en3, h⟩ := obind_some h
  obtain ⟨g4, h⟩ := oif_some h
  obtain ⟨T5, eT5, h⟩ := obind_some h
  have p1 : GR T T5 := GR.tr p0 (gr_sp (s_X10_narrow eT5))
  obtain ⟨g7, h⟩ := oif_some h
  obtain ⟨T8, eT8, h⟩ := obind_some h
  have p2 : GR T T8 := GR.tr p1 (sr_X0_measure eT8)
  exact GR.tr p2 (sr_X0_bestOf_b17 _ _ _ h)
set_option maxHeartbeats 4000000 in
set_option maxRecDepth 100000 in
theorem sr_X10_add_b56 {T1 : AT} : ∀ (T : AT), g_X10_add_b56 T = some T1 → GR T T1 := by
  intro T h
  have p0 := GR.rf T
  unfold g_X10_add_b56 at h
  rw [← osome1 h]
  exact p0
set_option maxHeartbeats 4000000 in
set_option maxRecDepth 100000 in
theorem sr_X10_add_b11 {T1 : AT} : ∀ n : Nat, ∀ (T : AT) (l0 : Nat) (l1 : Int32) (l2 : Nat) (l3 : Int32) (l4 : Int32) (l5 : Int32), g_X10_add_b11 n T l0 l1 l2 l3 l4 l5 = some T1 → GR T T1 := by
  intro n
  induction n with
  | zero =>
    intro T l0 l1 l2 l3 l4 l5 h
    have h : (none : Option (AT)) = some T1 := h
    cases h
  | succ n ih =>
    intro T l0 l1 l2 l3 l4 l5 h
    have p0 := GR.rf T
    unfold g_X10_add_b11 at h
    obtain ⟨g2, h⟩ := oif_some h
    obtain ⟨v3, -, h⟩ := elet_some h
    rcases oif_or h with ⟨c4, h⟩ | ⟨c4, h⟩
    · have h := h
      obtain ⟨g5, h⟩ := oif_some h
      obtain ⟨T6, eT6, h⟩ := obind_some h
      have p1 : GR T T6 := GR.tr p0 (sr_X10_settle eT6)
      exact GR.tr p1 (sr_X10_add_b56 _ h)
    · have h := h
      obtain ⟨g8, h⟩ := oif_some h
      obtain ⟨n9, en9, h⟩ := obind_some h
      obtain ⟨g10, h⟩ := oif_some h
      obtain ⟨g11, h⟩ := oif_some h
      obtain ⟨n12, en12, h⟩ := obind_some h
      obtain ⟨g13, h⟩ := oif_some h
      obtain ⟨g14, h⟩ := oif_some h
      obtain ⟨v15, -, h⟩ := elet_some h
      obtain ⟨v16, -, h⟩ := elet_some h
      obtain ⟨g17, h⟩ := oif_some h
      obtain ⟨n18, en18, h⟩ := obind_some h
      obtain ⟨g19, h⟩ := oif_some h
      obtain ⟨g20, h⟩ := oif_some h
      obtain ⟨n21, en21, h⟩ := obind_some h
      obtain ⟨g22, h⟩ := oif_some h
      obtain ⟨g23, h⟩ := oif_some h
      obtain ⟨v24, -, h⟩ := elet_some h
      obtain ⟨v25, -, h⟩ := elet_some h
      obtain ⟨v26, -, h⟩ := elet_some h
      obtain ⟨g27, h⟩ := oif_some h
      obtain ⟨g28, h⟩ := oif_some h
      obtain ⟨T29, eT29, h⟩ := elet_some h
      have p1 : GR T T29 := GR.tr p0 (by rw [eT29]; exact gr_sp sp_uJ)
      obtain ⟨v30, ev30, h⟩ := elet_some h
      exact GR.tr p1 (ih _ _ _ _ _ _ _ h)
set_option maxHeartbeats 4000000 in
set_option maxRecDepth 100000 in
theorem sr_X10_add_b8 {T1 : AT} : ∀ (T : AT) (l0 : Nat) (l1 : Int32) (l2 : Nat) (l3 : Int32) (l4 : Int32), g_X10_add_b8 T l0 l1 l2 l3 l4 = some T1 → GR T T1 := by
  intro T l0 l1 l2 l3 l4 h
  have p0 := GR.rf T
  unfold g_X10_add_b8 at h
  exact GR.tr p0 (sr_X10_add_b11 _ _ _ _ _ _ _ _ h)
set_option maxHeartbeats 4000000 in
set_option maxRecDepth 100000 in
theorem sr_X10_add {T : AT} {o : Nat} {a0 : Int32} {a1 : Nat} {a2 : Int32} {a3 : Int32} {T1 : AT} (h : g_X10_add T o a0 a1 a2 a3 = some T1) : GR T T1 := by
  have p0 := GR.rf T
  unfold g_X10_add at h
  obtain ⟨g2, h⟩ := oif_some h
  obtain ⟨v3, -, h⟩ := elet_some h
  obtain ⟨g4, h⟩ := oif_some h
  obtain ⟨T5, eT5, h⟩ := obind_some h
  have p1 : GR T T5 := GR.tr p0 (sr_X10_widenTo eT5)
  exact GR.tr p1 (sr_X10_add_b8 _ _ _ _ _ _ h)
set_option maxHeartbeats 4000000 in
set_option maxRecDepth 100000 in
theorem sr_X0_score_b137 {T1 : AT} {k31 : AT → Nat → Nat → Nat → Int32 → Int32 → Int32 → Option (AT)} (hk31 : ∀ (T : AT) (l0 : Nat) (l1 : Nat) (l2 : Nat) (l3 : Int32) (l4 : Int32) (l5 : Int32), k31 T l0 l1 l2 l3 l4 l5 = some T1 → GR T T1) : ∀ (T : AT) (l0 : Nat) (l1 : Nat) (l2 : Nat) (l3 : Int32) (l4 : Int32) (l5 : Int32), g_X0_score_b137 k31 T l0 l1 l2 l3 l4 l5 = some T1 → GR T T1 := by
  intro T l0 l1 l2 l3 l4 l5 h
  have p0 := GR.rf T
  unfold g_X0_score_b137 at h
  obtain ⟨v2, ev2, h⟩ := elet_some h
  exact GR.tr p0 (hk31 _ _ _ _ _ _ _ h)
set_option maxHeartbeats 4000000 in
set_option maxRecDepth 100000 in
theorem sr_X0_score_b131 {T1 : AT} {k31 : AT → Nat → Nat → Nat → Int32 → Int32 → Int32 → Option (AT)} {k52 : AT → Nat → Nat → Nat → Int32 → Int32 → Int32 → Int32 → Option (AT)} (hk31 : ∀ (T : AT) (l0 : Nat) (l1 : Nat) (l2 : Nat) (l3 : Int32) (l4 : Int32) (l5 : Int32), k31 T l0 l1 l2 l3 l4 l5 = some T1 → GR T T1) (hk52 : ∀ (T : AT) (l0 : Nat) (l1 : Nat) (l2 : Nat) (l3 : Int32) (l4 : Int32) (l5 : Int32) (l6 : Int32), k52 T l0 l1 l2 l3 l4 l5 l6 = some T1 → GR T T1) : ∀ (T : AT) (l0 : Nat) (l1 : Nat) (l2 : Nat) (l3 : Int32) (l4 : Int32) (l5 : Int32) (l6 : Int32), g_X0_score_b131 k31 k52 T l0 l1 l2 l3 l4 l5 l6 = some T1 → GR T T1 := by
  intro T l0 l1 l2 l3 l4 l5 l6 h
  have p0 := GR.rf T
  unfold g_X0_score_b131 at h
  obtain ⟨v2, ev2, h⟩ := elet_some h
  exact GR.tr p0 (hk52 _ _ _ _ _ _ _ _ h)
set_option maxHeartbeats 4000000 in
set_option maxRecDepth 100000 in
theorem sr_X0_score_b52 {T1 : AT} {k31 : AT → Nat → Nat → Nat → Int32 → Int32 → Int32 → Option (AT)} (hk31 : ∀ (T : AT) (l0 : Nat) (l1 : Nat) (l2 : Nat) (l3 : Int32) (l4 : Int32) (l5 : Int32), k31 T l0 l1 l2 l3 l4 l5 = some T1 → GR T T1) : ∀ n : Nat, ∀ (T : AT) (l0 : Nat) (l1 : Nat) (l2 : Nat) (l3 : Int32) (l4 : Int32) (l5 : Int32) (l6 : Int32), g_X0_score_b52 k31 n T l0 l1 l2 l3 l4 l5 l6 = some T1 → GR T T1 := by
  intro n
  induction n with
  | zero =>
    intro T l0 l1 l2 l3 l4 l5 l6 h
    have h : (none : Option (AT)) = some T1 := h
    cases h
  | succ n ih =>
    intro T l0 l1 l2 l3 l4 l5 l6 h
    have p0 := GR.rf T
    unfold g_X0_score_b52 at h
    obtain ⟨g2, h⟩ := oif_some h
    obtain ⟨n3, en3, h⟩ := obind_some h
    obtain ⟨g4, h⟩ := oif_some h
    obtain ⟨r6, T5, eT5, h⟩ := obind2_some h
    have p1 : GR T T5 := GR.tr p0 (gr_sp (s_X1_cells eT5))
    rcases oif_or h with ⟨c7, h⟩ | ⟨c7, h⟩
    · have h := h
      exact GR.tr p1 (sr_X0_score_b137 hk31 _ _ _ _ _ _ _ h)
    · have h := h
      obtain ⟨v8, -, h⟩ := elet_some h
      rcases oif_or h with ⟨c9, h⟩ | ⟨c9, h⟩
      · have h := h
        exact GR.tr p1 (sr_X0_score_b137 hk31 _ _ _ _ _ _ _ h)
      · have h := h
        obtain ⟨v10, -, h⟩ := elet_some h
        obtain ⟨r11, -, h⟩ := obind_some h
        obtain ⟨g12, h⟩ := oif_some h
        obtain ⟨n13, en13, h⟩ := obind_some h
        obtain ⟨g14, h⟩ := oif_some h
        obtain ⟨n15, en15, h⟩ := obind_some h
        obtain ⟨g16, h⟩ := oif_some h
        obtain ⟨r18, T17, eT17, h⟩ := obind2_some h
        obtain ⟨g19, h⟩ := oif_some h
        have p2 : GR T T17 := GR.tr p1 (gr_sp (s_X1_areaAround eT17))
        obtain ⟨g20, h⟩ := oif_some h
        obtain ⟨n21, en21, h⟩ := obind_some h
        obtain ⟨g22, h⟩ := oif_some h
        obtain ⟨r24, T23, eT23, h⟩ := obind2_some h
        have p3 : GR T T23 := GR.tr p2 (gr_sp (s_X1_bestIn eT23))
        obtain ⟨g25, h⟩ := oif_some h
        obtain ⟨n26, en26, h⟩ := obind_some h
        obtain ⟨r27, -, h⟩ := obind_some h
        obtain ⟨v28, -, h⟩ := elet_some h
        obtain ⟨g29, h⟩ := oif_some h
        obtain ⟨n30, en30, h⟩ := obind_some h
        obtain ⟨v31, -, h⟩ := elet_some h
        obtain ⟨g32, h⟩ := oif_some h
        obtain ⟨T33, eT33, h⟩ := obind_some h
        have p4 : GR T T33 := GR.tr p3 (sr_X10_add eT33)
        exact GR.tr p4 (sr_X0_score_b131 hk31 ih _ _ _ _ _ _ _ _ h)
set_option maxHeartbeats 4000000 in
set_option maxRecDepth 100000 in
theorem sr_X0_score_b49 {T1 : AT} {k31 : AT → Nat → Nat → Nat → Int32 → Int32 → Int32 → Option (AT)} (hk31 : ∀ (T : AT) (l0 : Nat) (l1 : Nat) (l2 : Nat) (l3 : Int32) (l4 : Int32) (l5 : Int32), k31 T l0 l1 l2 l3 l4 l5 = some T1 → GR T T1) : ∀ (T : AT) (l0 : Nat) (l1 : Nat) (l2 : Nat) (l3 : Int32) (l4 : Int32) (l5 : Int32), g_X0_score_b49 k31 T l0 l1 l2 l3 l4 l5 = some T1 → GR T T1 := by
  intro T l0 l1 l2 l3 l4 l5 h
  have p0 := GR.rf T
  unfold g_X0_score_b49 at h
  exact GR.tr p0 (sr_X0_score_b52 hk31 _ _ _ _ _ _ _ _ _ h)
set_option maxHeartbeats 4000000 in
set_option maxRecDepth 100000 in
theorem sr_X0_score_b31 {T1 : AT} : ∀ n : Nat, ∀ (T : AT) (l0 : Nat) (l1 : Nat) (l2 : Nat) (l3 : Int32) (l4 : Int32) (l5 : Int32), g_X0_score_b31 n T l0 l1 l2 l3 l4 l5 = some T1 → GR T T1 := by
  intro n
  induction n with
  | zero =>
    intro T l0 l1 l2 l3 l4 l5 h
    have h : (none : Option (AT)) = some T1 := h
    cases h
  | succ n ih =>
    intro T l0 l1 l2 l3 l4 l5 h
    have p0 := GR.rf T
    unfold g_X0_score_b31 at h
    rcases oif_or h with ⟨c2, h⟩ | ⟨c2, h⟩
    · have h := h
      rw [← osome1 h]
      exact p0
    · have h := h
      obtain ⟨v3, -, h⟩ := elet_some h
      obtain ⟨g4, h⟩ := oif_some h
      obtain ⟨T5, eT5, h⟩ := obind_some h
      have p1 : GR T T5 := GR.tr p0 (sr_X0_measure eT5)
      exact GR.tr p1 (sr_X0_score_b49 ih _ _ _ _ _ _ _ h)
set_option maxHeartbeats 4000000 in
set_option maxRecDepth 100000 in
theorem sr_X0_score {T : AT} {o : Nat} {a0 : Nat} {a1 : Nat} {a2 : Int32} {T1 : AT} (h : g_X0_score T o a0 a1 a2 = some T1) : GR T T1 := by
  have p0 := GR.rf T
  unfold g_X0_score at h
  obtain ⟨g2, h⟩ := oif_some h
  obtain ⟨v3, -, h⟩ := elet_some h
  obtain ⟨v4, -, h⟩ := elet_some h
  obtain ⟨v5, -, h⟩ := elet_some h
  obtain ⟨r6, -, h⟩ := obind_some h
  obtain ⟨v7, -, h⟩ := elet_some h
  obtain ⟨v8, -, h⟩ := elet_some h
  obtain ⟨g9, h⟩ := oif_some h
  obtain ⟨n10, en10, h⟩ := obind_some h
  obtain ⟨g11, h⟩ := oif_some h
  obtain ⟨T12, eT12, h⟩ := obind_some h
  have p1 : GR T T12 := GR.tr p0 (gr_sp (s_X10_narrow eT12))
  obtain ⟨v14, -, h⟩ := elet_some h
  exact GR.tr p1 (sr_X0_score_b31 _ _ _ _ _ _ _ _ h)
set_option maxHeartbeats 4000000 in
set_option maxRecDepth 100000 in
theorem sr_X10_set_b13 {T1 : AT} : ∀ (T : AT), g_X10_set_b13 T = some T1 → GR T T1 := by
  intro T h
  have p0 := GR.rf T
  unfold g_X10_set_b13 at h
  rw [← osome1 h]
  exact p0
set_option maxHeartbeats 4000000 in
set_option maxRecDepth 100000 in
theorem sr_X10_set {T : AT} {o : Nat} {a0 : Int32} {a1 : Nat} {a2 : Int32} {T1 : AT} (h : g_X10_set T o a0 a1 a2 = some T1) : GR T T1 := by
  have p0 := GR.rf T
  unfold g_X10_set at h
  obtain ⟨g2, h⟩ := oif_some h
  obtain ⟨T3, eT3, h⟩ := obind_some h
  have p1 : GR T T3 := GR.tr p0 (gr_sp (s_X10_clear eT3))
  obtain ⟨g5, h⟩ := oif_some h
  obtain ⟨T6, eT6, h⟩ := obind_some h
  have p2 : GR T T6 := GR.tr p1 (sr_X10_add eT6)
  exact GR.tr p2 (sr_X10_set_b13 _ h)
set_option maxHeartbeats 4000000 in
set_option maxRecDepth 100000 in
theorem sr_X4_measure_b148 {T1 : AT} {k89 : AT → Nat → Nat → Int32 → Option (AT)} (hk89 : ∀ (T : AT) (l0 : Nat) (l1 : Nat) (l3 : Int32), k89 T l0 l1 l3 = some T1 → GR T T1) : ∀ (T : AT) (l0 : Nat) (l1 : Nat) (l3 : Int32), g_X4_measure_b148 k89 T l0 l1 l3 = some T1 → GR T T1 := by
  intro T l0 l1 l3 h
  have p0 := GR.rf T
  unfold g_X4_measure_b148 at h
  obtain ⟨v2, ev2, h⟩ := elet_some h
  exact GR.tr p0 (hk89 _ _ _ _ h)
set_option maxHeartbeats 4000000 in
set_option maxRecDepth 100000 in
theorem sr_X4_measure_b138 {T1 : AT} {k89 : AT → Nat → Nat → Int32 → Option (AT)} (hk89 : ∀ (T : AT) (l0 : Nat) (l1 : Nat) (l3 : Int32), k89 T l0 l1 l3 = some T1 → GR T T1) : ∀ (T : AT) (l0 : Nat) (l1 : Nat) (l3 : Int32), g_X4_measure_b138 k89 T l0 l1 l3 = some T1 → GR T T1 := by
  intro T l0 l1 l3 h
  have p0 := GR.rf T
  unfold g_X4_measure_b138 at h
  obtain ⟨g2, h⟩ := oif_some h
  obtain ⟨v3, -, h⟩ := elet_some h
  obtain ⟨v4, -, h⟩ := elet_some h
  obtain ⟨g5, h⟩ := oif_some h
  obtain ⟨T6, eT6, h⟩ := elet_some h
  have p1 : GR T T6 := GR.tr p0 (by rw [eT6]; exact gr_sp sp_uI)
  exact GR.tr p1 (sr_X4_measure_b148 hk89 _ _ _ _ h)
set_option maxHeartbeats 4000000 in
set_option maxRecDepth 100000 in
theorem sr_X4_measure_b89 {T1 : AT} : ∀ n : Nat, ∀ (T : AT) (l0 : Nat) (l1 : Nat) (l3 : Int32), g_X4_measure_b89 n T l0 l1 l3 = some T1 → GR T T1 := by
  intro n
  induction n with
  | zero =>
    intro T l0 l1 l3 h
    have h : (none : Option (AT)) = some T1 := h
    cases h
  | succ n ih =>
    intro T l0 l1 l3 h
    have p0 := GR.rf T
    unfold g_X4_measure_b89 at h
    obtain ⟨g2, h⟩ := oif_some h
    obtain ⟨n3, en3, h⟩ := obind_some h
    obtain ⟨g4, h⟩ := oif_some h
    obtain ⟨r6, T5, eT5, h⟩ := obind2_some h
    have p1 : GR T T5 := GR.tr p0 (gr_sp (s_X1_cells eT5))
    rcases oif_or h with ⟨c7, h⟩ | ⟨c7, h⟩
    · have h := h
      rw [← osome1 h]
      exact p1
    · have h := h
      obtain ⟨g8, h⟩ := oif_some h
      obtain ⟨n9, en9, h⟩ := obind_some h
      obtain ⟨g10, h⟩ := oif_some h
      obtain ⟨r12, T11, eT11, h⟩ := obind2_some h
      have p2 : GR T T11 := GR.tr p1 (gr_sp (s_X4_standsOut eT11))
      rcases oif_or h with ⟨c13, h⟩ | ⟨c13, h⟩
      · have h := h
        exact GR.tr p2 (sr_X4_measure_b148 ih _ _ _ _ h)
      · have h := h
        obtain ⟨g14, h⟩ := oif_some h
        obtain ⟨n15, en15, h⟩ := obind_some h
        obtain ⟨g16, h⟩ := oif_some h
        obtain ⟨v17, -, h⟩ := elet_some h
        obtain ⟨g18, h⟩ := oif_some h
        obtain ⟨g19, h⟩ := oif_some h
        obtain ⟨T20, eT20, h⟩ := elet_some h
        have p3 : GR T T20 := GR.tr p2 (by rw [eT20]; exact gr_sp sp_uI)
        obtain ⟨g21, h⟩ := oif_some h
        obtain ⟨n22, en22, h⟩ := obind_some h
        obtain ⟨g23, h⟩ := oif_some h
        obtain ⟨v24, -, h⟩ := elet_some h
        obtain ⟨g25, h⟩ := oif_some h
        obtain ⟨n26, en26, h⟩ := obind_some h
        obtain ⟨g27, h⟩ := oif_some h
        obtain ⟨T28, eT28, h⟩ := obind_some h
        have p4 : GR T T28 := GR.tr p3 (sr_X10_set eT28)
        exact GR.tr p4 (sr_X4_measure_b138 ih _ _ _ _ h)
set_option maxHeartbeats 4000000 in
set_option maxRecDepth 100000 in
theorem sr_X4_measure_b53 {T1 : AT} {k16 : AT → Nat → Nat → Nat → Int32 → Option (AT)} (hk16 : ∀ (T : AT) (l0 : Nat) (l1 : Nat) (l2 : Nat) (l3 : Int32), k16 T l0 l1 l2 l3 = some T1 → GR T T1) : ∀ (T : AT) (l0 : Nat) (l1 : Nat) (l2 : Nat) (l3 : Int32), g_X4_measure_b53 k16 T l0 l1 l2 l3 = some T1 → GR T T1 := by
  intro T l0 l1 l2 l3 h
  have p0 := GR.rf T
  unfold g_X4_measure_b53 at h
  obtain ⟨v2, ev2, h⟩ := elet_some h
  exact GR.tr p0 (hk16 _ _ _ _ _ h)
set_option maxHeartbeats 4000000 in
set_option maxRecDepth 100000 in
theorem sr_X4_measure_b16 {T1 : AT} : ∀ n : Nat, ∀ (T : AT) (l0 : Nat) (l1 : Nat) (l2 : Nat) (l3 : Int32), g_X4_measure_b16 n T l0 l1 l2 l3 = some T1 → GR T T1 := by
  intro n
  induction n with
  | zero =>
    intro T l0 l1 l2 l3 h
    have h : (none : Option (AT)) = some T1 := h
    cases h
  | succ n ih =>
    intro T l0 l1 l2 l3 h
    have p0 := GR.rf T
    unfold g_X4_measure_b16 at h
    obtain ⟨g2, h⟩ := oif_some h
    obtain ⟨n3, en3, h⟩ := obind_some h
    obtain ⟨g4, h⟩ := oif_some h
    obtain ⟨r6, T5, eT5, h⟩ := obind2_some h
    have p1 : GR T T5 := GR.tr p0 (gr_sp (s_X1_cells eT5))
    rcases oif_or h with ⟨c7, h⟩ | ⟨c7, h⟩
    · have h := h
      obtain ⟨g8, h⟩ := oif_some h
      obtain ⟨n9, en9, h⟩ := obind_some h
      obtain ⟨g10, h⟩ := oif_some h
      obtain ⟨n11, en11, h⟩ := obind_some h
      obtain ⟨g12, h⟩ := oif_some h
      obtain ⟨n13, en13, h⟩ := obind_some h
      obtain ⟨g14, h⟩ := oif_some h
      obtain ⟨n15, en15, h⟩ := obind_some h
      obtain ⟨g16, h⟩ := oif_some h
      obtain ⟨r18, T17, eT17, h⟩ := obind2_some h
      have p2 : GR T T17 := GR.tr p1 (gr_sp (s_X1_bestIn eT17))
      obtain ⟨g19, h⟩ := oif_some h
      obtain ⟨T20, eT20, h⟩ := elet_some h
      have p3 : GR T T20 := GR.tr p2 (by rw [eT20]; exact gr_sp sp_uI)
      obtain ⟨g21, h⟩ := oif_some h
      obtain ⟨T22, eT22, h⟩ := elet_some h
      have p4 : GR T T22 := GR.tr p3 (by rw [eT22]; exact gr_sp sp_uI)
      exact GR.tr p4 (sr_X4_measure_b89 _ _ _ _ _ h)
    · have h := h
      obtain ⟨g23, h⟩ := oif_some h
      obtain ⟨n24, en24, h⟩ := obind_some h
      obtain ⟨g25, h⟩ := oif_some h
      obtain ⟨g26, h⟩ := oif_some h
      obtain ⟨n27, en27, h⟩ := obind_some h
      obtain ⟨g28, h⟩ := oif_some h
      obtain ⟨r30, T29, eT29, h⟩ := obind2_some h
      have p2 : GR T T29 := GR.tr p1 (gr_sp (s_X8_windowOf eT29))
      obtain ⟨g31, h⟩ := oif_some h
      obtain ⟨n32, en32, h⟩ := obind_some h
      obtain ⟨g33, h⟩ := oif_some h
      obtain ⟨T34, eT34, h⟩ := obind_some h
      have p3 : GR T T34 := GR.tr p2 (sr_X8_blockPowerOf eT34)
      exact GR.tr p3 (sr_X4_measure_b53 ih _ _ _ _ _ h)
set_option maxHeartbeats 4000000 in
set_option maxRecDepth 100000 in
theorem sr_X4_measure {T : AT} {o : Nat} {a0 : Nat} {a1 : Nat} {T1 : AT} (h : g_X4_measure T o a0 a1 = some T1) : GR T T1 := by
  have p0 := GR.rf T
  unfold g_X4_measure at h
  obtain ⟨g2, h⟩ := oif_some h
  obtain ⟨n3, en3, h⟩ := obind_some h
  obtain ⟨g4, h⟩ := oif_some h
  obtain ⟨T5, eT5, h⟩ := obind_some h
  have p1 : GR T T5 := GR.tr p0 (gr_sp (s_X10_narrow eT5))
  obtain ⟨g7, h⟩ := oif_some h
  obtain ⟨n8, en8, h⟩ := obind_some h
  obtain ⟨g9, h⟩ := oif_some h
  obtain ⟨T10, eT10, h⟩ := obind_some h
  have p2 : GR T T10 := GR.tr p1 (gr_sp (s_X10_narrow eT10))
  exact GR.tr p2 (sr_X4_measure_b16 _ _ _ _ _ _ h)
set_option maxHeartbeats 4000000 in
set_option maxRecDepth 100000 in
theorem sr_X4_sumIn_b53 {T1 : AT} {k11 : AT → Nat → Nat → Nat → Nat → Int32 → Int32 → Option (AT)} {k24 : AT → Nat → Nat → Nat → Nat → Int32 → Int32 → Int32 → Option (AT)} (hk11 : ∀ (T : AT) (l0 : Nat) (l1 : Nat) (l2 : Nat) (l3 : Nat) (l4 : Int32) (l5 : Int32), k11 T l0 l1 l2 l3 l4 l5 = some T1 → GR T T1) (hk24 : ∀ (T : AT) (l0 : Nat) (l1 : Nat) (l2 : Nat) (l3 : Nat) (l4 : Int32) (l5 : Int32) (l6 : Int32), k24 T l0 l1 l2 l3 l4 l5 l6 = some T1 → GR T T1) : ∀ (T : AT) (l0 : Nat) (l1 : Nat) (l2 : Nat) (l3 : Nat) (l4 : Int32) (l5 : Int32) (l6 : Int32), g_X4_sumIn_b53 k11 k24 T l0 l1 l2 l3 l4 l5 l6 = some T1 → GR T T1 := by
  intro T l0 l1 l2 l3 l4 l5 l6 h
  have p0 := GR.rf T
  unfold g_X4_sumIn_b53 at h
  obtain ⟨v2, ev2, h⟩ := elet_some h
  exact GR.tr p0 (hk24 _ _ _ _ _ _ _ _ h)
set_option maxHeartbeats 4000000 in
set_option maxRecDepth 100000 in
theorem sr_X4_sumIn_b24 {T1 : AT} {k11 : AT → Nat → Nat → Nat → Nat → Int32 → Int32 → Option (AT)} (hk11 : ∀ (T : AT) (l0 : Nat) (l1 : Nat) (l2 : Nat) (l3 : Nat) (l4 : Int32) (l5 : Int32), k11 T l0 l1 l2 l3 l4 l5 = some T1 → GR T T1) : ∀ n : Nat, ∀ (T : AT) (l0 : Nat) (l1 : Nat) (l2 : Nat) (l3 : Nat) (l4 : Int32) (l5 : Int32) (l6 : Int32), g_X4_sumIn_b24 k11 n T l0 l1 l2 l3 l4 l5 l6 = some T1 → GR T T1 := by
  intro n
  induction n with
  | zero =>
    intro T l0 l1 l2 l3 l4 l5 l6 h
    have h : (none : Option (AT)) = some T1 := h
    cases h
  | succ n ih =>
    intro T l0 l1 l2 l3 l4 l5 l6 h
    have p0 := GR.rf T
    unfold g_X4_sumIn_b24 at h
    obtain ⟨g2, h⟩ := oif_some h
    obtain ⟨g3, h⟩ := oif_some h
    obtain ⟨v4, -, h⟩ := elet_some h
    rcases oif_or h with ⟨c5, h⟩ | ⟨c5, h⟩
    · have h := h
      obtain ⟨v6, ev6, h⟩ := elet_some h
      exact GR.tr p0 (hk11 _ _ _ _ _ _ _ h)
    · have h := h
      obtain ⟨g7, h⟩ := oif_some h
      obtain ⟨n8, en8, h⟩ := obind_some h
      obtain ⟨g9, h⟩ := oif_some h
      obtain ⟨v10, -, h⟩ := elet_some h
      obtain ⟨v11, -, h⟩ := elet_some h
      obtain ⟨v12, -, h⟩ := elet_some h
      obtain ⟨g13, h⟩ := oif_some h
      obtain ⟨T14, eT14, h⟩ := obind_some h
      have p1 : GR T T14 := GR.tr p0 (sr_X10_add eT14)
      exact GR.tr p1 (sr_X4_sumIn_b53 hk11 ih _ _ _ _ _ _ _ _ h)
set_option maxHeartbeats 4000000 in
set_option maxRecDepth 100000 in
theorem sr_X4_sumIn_b11 {T1 : AT} : ∀ n : Nat, ∀ (T : AT) (l0 : Nat) (l1 : Nat) (l2 : Nat) (l3 : Nat) (l4 : Int32) (l5 : Int32), g_X4_sumIn_b11 n T l0 l1 l2 l3 l4 l5 = some T1 → GR T T1 := by
  intro n
  induction n with
  | zero =>
    intro T l0 l1 l2 l3 l4 l5 h
    have h : (none : Option (AT)) = some T1 := h
    cases h
  | succ n ih =>
    intro T l0 l1 l2 l3 l4 l5 h
    have p0 := GR.rf T
    unfold g_X4_sumIn_b11 at h
    obtain ⟨g2, h⟩ := oif_some h
    obtain ⟨g3, h⟩ := oif_some h
    obtain ⟨v4, -, h⟩ := elet_some h
    rcases oif_or h with ⟨c5, h⟩ | ⟨c5, h⟩
    · have h := h
      rw [← osome1 h]
      exact p0
    · have h := h
      obtain ⟨g6, h⟩ := oif_some h
      obtain ⟨g7, h⟩ := oif_some h
      obtain ⟨v8, -, h⟩ := elet_some h
      exact GR.tr p0 (sr_X4_sumIn_b24 ih _ _ _ _ _ _ _ _ _ h)
set_option maxHeartbeats 4000000 in
set_option maxRecDepth 100000 in
theorem sr_X4_sumIn {T : AT} {o : Nat} {a0 : Nat} {a1 : Nat} {a2 : Nat} {a3 : Int32} {T1 : AT} (h : g_X4_sumIn T o a0 a1 a2 a3 = some T1) : GR T T1 := by
  have p0 := GR.rf T
  unfold g_X4_sumIn at h
  obtain ⟨g2, h⟩ := oif_some h
  obtain ⟨T3, eT3, h⟩ := obind_some h
  have p1 : GR T T3 := GR.tr p0 (gr_sp (s_X10_clear eT3))
  obtain ⟨g5, h⟩ := oif_some h
  obtain ⟨g6, h⟩ := oif_some h
  obtain ⟨v7, -, h⟩ := elet_some h
  exact GR.tr p1 (sr_X4_sumIn_b11 _ _ _ _ _ _ _ _ h)
set_option maxHeartbeats 4000000 in
set_option maxRecDepth 100000 in
theorem sr_X4_digit_b84 {r1 : Int32} {T1 : AT} : ∀ (T : AT) (l3 : Int32), g_X4_digit_b84 T l3 = some (r1, T1) → GR T T1 := by
  intro T l3 h
  have p0 := GR.rf T
  unfold g_X4_digit_b84 at h
  rw [← (osome2 h).2]
  exact p0
set_option maxHeartbeats 4000000 in
set_option maxRecDepth 100000 in
theorem sr_X4_digit_b77 {r1 : Int32} {T1 : AT} {k27 : AT → Nat → Nat → Int32 → Int32 → Option (Int32 × AT)} (hk27 : ∀ (T : AT) (l0 : Nat) (l2 : Nat) (l3 : Int32) (l4 : Int32), k27 T l0 l2 l3 l4 = some (r1, T1) → GR T T1) : ∀ (T : AT) (s0 : Int32) (l0 : Nat) (l2 : Nat) (l4 : Int32), g_X4_digit_b77 k27 T s0 l0 l2 l4 = some (r1, T1) → GR T T1 := by
  intro T s0 l0 l2 l4 h
  have p0 := GR.rf T
  unfold g_X4_digit_b77 at h
  obtain ⟨v2, ev2, h⟩ := elet_some h
  exact GR.tr p0 (hk27 _ _ _ _ _ h)
set_option maxHeartbeats 4000000 in
set_option maxRecDepth 100000 in
theorem sr_X4_digit_b62 {r1 : Int32} {T1 : AT} {k27 : AT → Nat → Nat → Int32 → Int32 → Option (Int32 × AT)} (hk27 : ∀ (T : AT) (l0 : Nat) (l2 : Nat) (l3 : Int32) (l4 : Int32), k27 T l0 l2 l3 l4 = some (r1, T1) → GR T T1) : ∀ (T : AT) (l0 : Nat) (l2 : Nat) (l3 : Int32) (l4 : Int32), g_X4_digit_b62 k27 T l0 l2 l3 l4 = some (r1, T1) → GR T T1 := by
  intro T l0 l2 l3 l4 h
  have p0 := GR.rf T
  unfold g_X4_digit_b62 at h
  obtain ⟨g2, h⟩ := oif_some h
  obtain ⟨r4, T3, eT3, h⟩ := obind2_some h
  have p1 : GR T T3 := GR.tr p0 (gr_sp (s_X10_compare eT3))
  rcases oif_or h with ⟨c5, h⟩ | ⟨c5, h⟩
  · have h := h
    exact GR.tr p1 (sr_X4_digit_b77 hk27 _ _ _ _ _ h)
  · have h := h
    exact GR.tr p1 (sr_X4_digit_b77 hk27 _ _ _ _ _ h)
set_option maxHeartbeats 4000000 in
set_option maxRecDepth 100000 in
theorem sr_X4_digit_b27 {r1 : Int32} {T1 : AT} : ∀ n : Nat, ∀ (T : AT) (l0 : Nat) (l2 : Nat) (l3 : Int32) (l4 : Int32), g_X4_digit_b27 n T l0 l2 l3 l4 = some (r1, T1) → GR T T1 := by
  intro n
  induction n with
  | zero =>
    intro T l0 l2 l3 l4 h
    have h : (none : Option (Int32 × AT)) = some (r1, T1) := h
    cases h
  | succ n ih =>
    intro T l0 l2 l3 l4 h
    have p0 := GR.rf T
    unfold g_X4_digit_b27 at h
    rcases oif_or h with ⟨c2, h⟩ | ⟨c2, h⟩
    · have h := h
      exact GR.tr p0 (sr_X4_digit_b84 _ _ h)
    · have h := h
      obtain ⟨g3, h⟩ := oif_some h
      obtain ⟨n4, en4, h⟩ := obind_some h
      obtain ⟨g5, h⟩ := oif_some h
      obtain ⟨v6, -, h⟩ := elet_some h
      obtain ⟨g7, h⟩ := oif_some h
      obtain ⟨r9, T8, eT8, h⟩ := obind2_some h
      have p1 : GR T T8 := GR.tr p0 (gr_sp (s_X10_isZero eT8))
      rcases oif_or h with ⟨c10, h⟩ | ⟨c10, h⟩
      · have h := h
        obtain ⟨g11, h⟩ := oif_some h
        obtain ⟨n12, en12, h⟩ := obind_some h
        obtain ⟨g13, h⟩ := oif_some h
        obtain ⟨v14, -, h⟩ := elet_some h
        obtain ⟨g15, h⟩ := oif_some h
        obtain ⟨T16, eT16, h⟩ := obind_some h
        have p2 : GR T T16 := GR.tr p1 (sr_X10_add eT16)
        exact GR.tr p2 (sr_X4_digit_b62 ih _ _ _ _ _ h)
      · have h := h
        exact GR.tr p1 (sr_X4_digit_b84 _ _ h)
set_option maxHeartbeats 4000000 in
set_option maxRecDepth 100000 in
theorem sr_X4_digit_b22 {r1 : Int32} {T1 : AT} : ∀ (T : AT) (l0 : Nat) (l2 : Nat), g_X4_digit_b22 T l0 l2 = some (r1, T1) → GR T T1 := by
  intro T l0 l2 h
  have p0 := GR.rf T
  unfold g_X4_digit_b22 at h
  exact GR.tr p0 (sr_X4_digit_b27 _ _ _ _ _ _ h)
set_option maxHeartbeats 4000000 in
set_option maxRecDepth 100000 in
theorem sr_X4_digit {T : AT} {o : Nat} {a0 : Int32} {a1 : Nat} {r1 : Int32} {T1 : AT} (h : g_X4_digit T o a0 a1 = some (r1, T1)) : GR T T1 := by
  have p0 := GR.rf T
  unfold g_X4_digit at h
  obtain ⟨g2, h⟩ := oif_some h
  obtain ⟨T3, eT3, h⟩ := obind_some h
  have p1 : GR T T3 := GR.tr p0 (gr_sp (s_X10_clear eT3))
  obtain ⟨g5, h⟩ := oif_some h
  obtain ⟨T6, eT6, h⟩ := obind_some h
  have p2 : GR T T6 := GR.tr p1 (gr_sp (s_X10_clear eT6))
  obtain ⟨g8, h⟩ := oif_some h
  obtain ⟨n9, en9, h⟩ := obind_some h
  obtain ⟨g10, h⟩ := oif_some h
  obtain ⟨T11, eT11, h⟩ := obind_some h
  have p3 : GR T T11 := GR.tr p2 (sr_X10_add eT11)
  exact GR.tr p3 (sr_X4_digit_b22 _ _ _ h)
set_option maxHeartbeats 4000000 in
set_option maxRecDepth 100000 in
theorem sr_X10_put_b20 {T1 : AT} : ∀ (T : AT), g_X10_put_b20 T = some T1 → GR T T1 := by
  intro T h
  have p0 := GR.rf T
  unfold g_X10_put_b20 at h
  rw [← osome1 h]
  exact p0
set_option maxHeartbeats 4000000 in
set_option maxRecDepth 100000 in
theorem sr_X10_put {T : AT} {o : Nat} {a0 : Int32} {a1 : Int32} {T1 : AT} (h : g_X10_put T o a0 a1 = some T1) : GR T T1 := by
  have p0 := GR.rf T
  unfold g_X10_put at h
  obtain ⟨g2, h⟩ := oif_some h
  obtain ⟨T3, eT3, h⟩ := obind_some h
  have p1 : GR T T3 := GR.tr p0 (gr_sp (s_X10_clear eT3))
  obtain ⟨g5, h⟩ := oif_some h
  obtain ⟨n6, en6, h⟩ := obind_some h
  obtain ⟨g7, h⟩ := oif_some h
  obtain ⟨g8, h⟩ := oif_some h
  obtain ⟨n9, en9, h⟩ := obind_some h
  obtain ⟨v10, -, h⟩ := elet_some h
  obtain ⟨g11, h⟩ := oif_some h
  obtain ⟨g12, h⟩ := oif_some h
  obtain ⟨T13, eT13, h⟩ := elet_some h
  have p2 : GR T T13 := GR.tr p1 (by rw [eT13]; exact gr_sp sp_uJ)
  obtain ⟨g14, h⟩ := oif_some h
  obtain ⟨T15, eT15, h⟩ := obind_some h
  have p3 : GR T T15 := GR.tr p2 (sr_X10_settle eT15)
  exact GR.tr p3 (sr_X10_put_b20 _ h)
set_option maxHeartbeats 4000000 in
set_option maxRecDepth 100000 in
theorem sr_X5_finish_b87 {T1 : AT} {k9 : AT → Nat → Nat → Nat → Int32 → Option (AT)} {k20 : AT → Nat → Nat → Nat → Int32 → Int32 → Option (AT)} (hk9 : ∀ (T : AT) (l0 : Nat) (l1 : Nat) (l2 : Nat) (l3 : Int32), k9 T l0 l1 l2 l3 = some T1 → GR T T1) (hk20 : ∀ (T : AT) (l0 : Nat) (l1 : Nat) (l2 : Nat) (l3 : Int32) (l4 : Int32), k20 T l0 l1 l2 l3 l4 = some T1 → GR T T1) : ∀ (T : AT) (l0 : Nat) (l1 : Nat) (l2 : Nat) (l3 : Int32) (l4 : Int32), g_X5_finish_b87 k9 k20 T l0 l1 l2 l3 l4 = some T1 → GR T T1 := by
  intro T l0 l1 l2 l3 l4 h
  have p0 := GR.rf T
  unfold g_X5_finish_b87 at h
  obtain ⟨v2, ev2, h⟩ := elet_some h
  exact GR.tr p0 (hk20 _ _ _ _ _ _ h)
set_option maxHeartbeats 4000000 in
set_option maxRecDepth 100000 in
theorem sr_X5_finish_b55 {T1 : AT} {k9 : AT → Nat → Nat → Nat → Int32 → Option (AT)} {k20 : AT → Nat → Nat → Nat → Int32 → Int32 → Option (AT)} (hk9 : ∀ (T : AT) (l0 : Nat) (l1 : Nat) (l2 : Nat) (l3 : Int32), k9 T l0 l1 l2 l3 = some T1 → GR T T1) (hk20 : ∀ (T : AT) (l0 : Nat) (l1 : Nat) (l2 : Nat) (l3 : Int32) (l4 : Int32), k20 T l0 l1 l2 l3 l4 = some T1 → GR T T1) : ∀ (T : AT) (s0 : Int32) (l0 : Nat) (l1 : Nat) (l2 : Nat) (l3 : Int32) (l4 : Int32), g_X5_finish_b55 k9 k20 T s0 l0 l1 l2 l3 l4 = some T1 → GR T T1 := by
  intro T s0 l0 l1 l2 l3 l4 h
  have p0 := GR.rf T
  unfold g_X5_finish_b55 at h
  obtain ⟨g2, h⟩ := oif_some h
  obtain ⟨n3, en3, h⟩ := obind_some h
  obtain ⟨r4, -, h⟩ := obind_some h
  obtain ⟨g5, h⟩ := oif_some h
  obtain ⟨v6, -, h⟩ := elet_some h
  obtain ⟨v7, -, h⟩ := elet_some h
  obtain ⟨g8, h⟩ := oif_some h
  obtain ⟨v9, -, h⟩ := elet_some h
  obtain ⟨v10, -, h⟩ := elet_some h
  obtain ⟨v11, -, h⟩ := elet_some h
  obtain ⟨g12, h⟩ := oif_some h
  obtain ⟨T13, eT13, h⟩ := obind_some h
  have p1 : GR T T13 := GR.tr p0 (sr_X10_put eT13)
  exact GR.tr p1 (sr_X5_finish_b87 hk9 hk20 _ _ _ _ _ _ h)
set_option maxHeartbeats 4000000 in
set_option maxRecDepth 100000 in
theorem sr_X5_finish_b20 {T1 : AT} {k9 : AT → Nat → Nat → Nat → Int32 → Option (AT)} (hk9 : ∀ (T : AT) (l0 : Nat) (l1 : Nat) (l2 : Nat) (l3 : Int32), k9 T l0 l1 l2 l3 = some T1 → GR T T1) : ∀ n : Nat, ∀ (T : AT) (l0 : Nat) (l1 : Nat) (l2 : Nat) (l3 : Int32) (l4 : Int32), g_X5_finish_b20 k9 n T l0 l1 l2 l3 l4 = some T1 → GR T T1 := by
  intro n
  induction n with
  | zero =>
    intro T l0 l1 l2 l3 l4 h
    have h : (none : Option (AT)) = some T1 := h
    cases h
  | succ n ih =>
    intro T l0 l1 l2 l3 l4 h
    have p0 := GR.rf T
    unfold g_X5_finish_b20 at h
    obtain ⟨g2, h⟩ := oif_some h
    obtain ⟨v3, -, h⟩ := elet_some h
    rcases oif_or h with ⟨c4, h⟩ | ⟨c4, h⟩
    · have h := h
      obtain ⟨v5, ev5, h⟩ := elet_some h
      exact GR.tr p0 (hk9 _ _ _ _ _ h)
    · have h := h
      obtain ⟨g6, h⟩ := oif_some h
      obtain ⟨v7, -, h⟩ := elet_some h
      rcases oif_or h with ⟨c8, h⟩ | ⟨c8, h⟩
      · have h := h
        obtain ⟨g9, h⟩ := oif_some h
        obtain ⟨r11, T10, eT10, h⟩ := obind2_some h
        have p1 : GR T T10 := GR.tr p0 (gr_sp (s_X5_raw eT10))
        exact GR.tr p1 (sr_X5_finish_b55 hk9 ih _ _ _ _ _ _ _ h)
      · have h := h
        obtain ⟨g12, h⟩ := oif_some h
        obtain ⟨r14, T13, eT13, h⟩ := obind2_some h
        have p1 : GR T T13 := GR.tr p0 (gr_sp (s_X5_filtered eT13))
        exact GR.tr p1 (sr_X5_finish_b55 hk9 ih _ _ _ _ _ _ _ h)
set_option maxHeartbeats 4000000 in
set_option maxRecDepth 100000 in
theorem sr_X5_finish_b9 {T1 : AT} : ∀ n : Nat, ∀ (T : AT) (l0 : Nat) (l1 : Nat) (l2 : Nat) (l3 : Int32), g_X5_finish_b9 n T l0 l1 l2 l3 = some T1 → GR T T1 := by
  intro n
  induction n with
  | zero =>
    intro T l0 l1 l2 l3 h
    have h : (none : Option (AT)) = some T1 := h
    cases h
  | succ n ih =>
    intro T l0 l1 l2 l3 h
    have p0 := GR.rf T
    unfold g_X5_finish_b9 at h
    obtain ⟨g2, h⟩ := oif_some h
    obtain ⟨v3, -, h⟩ := elet_some h
    rcases oif_or h with ⟨c4, h⟩ | ⟨c4, h⟩
    · have h := h
      obtain ⟨g5, h⟩ := oif_some h
      obtain ⟨T6, eT6, h⟩ := elet_some h
      have p1 : GR T T6 := GR.tr p0 (by rw [eT6]; exact gr_sp sp_uI)
      rw [← osome1 h]
      exact p1
    · have h := h
      exact GR.tr p0 (sr_X5_finish_b20 ih _ _ _ _ _ _ _ h)
set_option maxHeartbeats 4000000 in
set_option maxRecDepth 100000 in
theorem sr_X5_finish {T : AT} {o : Nat} {a0 : Nat} {a1 : Nat} {T1 : AT} (h : g_X5_finish T o a0 a1 = some T1) : GR T T1 := by
  have p0 := GR.rf T
  unfold g_X5_finish at h
  obtain ⟨g2, h⟩ := oif_some h
  obtain ⟨n3, en3, h⟩ := obind_some h
  obtain ⟨g4, h⟩ := oif_some h
  obtain ⟨T5, eT5, h⟩ := obind_some h
  have p1 : GR T T5 := GR.tr p0 (gr_sp (s_X10_narrow eT5))
  exact GR.tr p1 (sr_X5_finish_b9 _ _ _ _ _ _ h)
set_option maxHeartbeats 4000000 in
set_option maxRecDepth 100000 in
theorem sr_X5_record_b104 {T1 : AT} : ∀ (T : AT), g_X5_record_b104 T = some T1 → GR T T1 := by
  intro T h
  have p0 := GR.rf T
  unfold g_X5_record_b104 at h
  rw [← osome1 h]
  exact p0
set_option maxHeartbeats 4000000 in
set_option maxRecDepth 100000 in
theorem sr_X5_record_b92 {T1 : AT} {k6 : AT → Nat → Nat → Nat → Int32 → Option (AT)} (hk6 : ∀ (T : AT) (l0 : Nat) (l1 : Nat) (l2 : Nat) (l3 : Int32), k6 T l0 l1 l2 l3 = some T1 → GR T T1) : ∀ (T : AT) (l0 : Nat) (l1 : Nat) (l2 : Nat) (l3 : Int32), g_X5_record_b92 k6 T l0 l1 l2 l3 = some T1 → GR T T1 := by
  intro T l0 l1 l2 l3 h
  have p0 := GR.rf T
  unfold g_X5_record_b92 at h
  obtain ⟨v2, ev2, h⟩ := elet_some h
  exact GR.tr p0 (hk6 _ _ _ _ _ h)
set_option maxHeartbeats 4000000 in
set_option maxRecDepth 100000 in
theorem sr_X5_record_b34 {T1 : AT} {k6 : AT → Nat → Nat → Nat → Int32 → Option (AT)} (hk6 : ∀ (T : AT) (l0 : Nat) (l1 : Nat) (l2 : Nat) (l3 : Int32), k6 T l0 l1 l2 l3 = some T1 → GR T T1) : ∀ n : Nat, ∀ (T : AT) (l0 : Nat) (l1 : Nat) (l2 : Nat) (l3 : Int32) (l4 : Nat) (l5 : Int32), g_X5_record_b34 k6 n T l0 l1 l2 l3 l4 l5 = some T1 → GR T T1 := by
  intro n
  induction n with
  | zero =>
    intro T l0 l1 l2 l3 l4 l5 h
    have h : (none : Option (AT)) = some T1 := h
    cases h
  | succ n ih =>
    intro T l0 l1 l2 l3 l4 l5 h
    have p0 := GR.rf T
    unfold g_X5_record_b34 at h
    obtain ⟨g2, h⟩ := oif_some h
    obtain ⟨v3, -, h⟩ := elet_some h
    rcases oif_or h with ⟨c4, h⟩ | ⟨c4, h⟩
    · have h := h
      exact GR.tr p0 (sr_X5_record_b92 hk6 _ _ _ _ _ h)
    · have h := h
      obtain ⟨g5, h⟩ := oif_some h
      obtain ⟨n6, en6, h⟩ := obind_some h
      obtain ⟨g7, h⟩ := oif_some h
      obtain ⟨g8, h⟩ := oif_some h
      obtain ⟨v9, -, h⟩ := elet_some h
      obtain ⟨g10, h⟩ := oif_some h
      obtain ⟨n11, en11, h⟩ := obind_some h
      obtain ⟨g12, h⟩ := oif_some h
      obtain ⟨g13, h⟩ := oif_some h
      obtain ⟨v14, -, h⟩ := elet_some h
      obtain ⟨r15, -, h⟩ := obind_some h
      obtain ⟨g16, h⟩ := oif_some h
      obtain ⟨n17, en17, h⟩ := obind_some h
      obtain ⟨g18, h⟩ := oif_some h
      obtain ⟨g19, h⟩ := oif_some h
      obtain ⟨v20, -, h⟩ := elet_some h
      obtain ⟨g21, h⟩ := oif_some h
      obtain ⟨n22, en22, h⟩ := obind_some h
      obtain ⟨g23, h⟩ := oif_some h
      obtain ⟨g24, h⟩ := oif_some h
      obtain ⟨v25, -, h⟩ := elet_some h
      obtain ⟨r26, -, h⟩ := obind_some h
      obtain ⟨g27, h⟩ := oif_some h
      obtain ⟨T28, eT28, h⟩ := obind_some h
      have p1 : GR T T28 := GR.tr p0 (gr_sp (s_X5_hear eT28))
      obtain ⟨v30, ev30, h⟩ := elet_some h
      exact GR.tr p1 (ih _ _ _ _ _ _ _ h)
set_option maxHeartbeats 4000000 in
set_option maxRecDepth 100000 in
theorem sr_X5_record_b6 {T1 : AT} : ∀ n : Nat, ∀ (T : AT) (l0 : Nat) (l1 : Nat) (l2 : Nat) (l3 : Int32), g_X5_record_b6 n T l0 l1 l2 l3 = some T1 → GR T T1 := by
  intro n
  induction n with
  | zero =>
    intro T l0 l1 l2 l3 h
    have h : (none : Option (AT)) = some T1 := h
    cases h
  | succ n ih =>
    intro T l0 l1 l2 l3 h
    have p0 := GR.rf T
    unfold g_X5_record_b6 at h
    obtain ⟨g2, h⟩ := oif_some h
    obtain ⟨v3, -, h⟩ := elet_some h
    rcases oif_or h with ⟨c4, h⟩ | ⟨c4, h⟩
    · have h := h
      obtain ⟨g5, h⟩ := oif_some h
      obtain ⟨T6, eT6, h⟩ := obind_some h
      have p1 : GR T T6 := GR.tr p0 (sr_X5_finish eT6)
      exact GR.tr p1 (sr_X5_record_b104 _ h)
    · have h := h
      obtain ⟨g8, h⟩ := oif_some h
      obtain ⟨n9, en9, h⟩ := obind_some h
      obtain ⟨g10, h⟩ := oif_some h
      obtain ⟨g11, h⟩ := oif_some h
      obtain ⟨v12, -, h⟩ := elet_some h
      rcases oif_or h with ⟨c13, h⟩ | ⟨c13, h⟩
      · have h := h
        exact GR.tr p0 (sr_X5_record_b92 ih _ _ _ _ _ h)
      · have h := h
        obtain ⟨g14, h⟩ := oif_some h
        obtain ⟨n15, en15, h⟩ := obind_some h
        obtain ⟨g16, h⟩ := oif_some h
        obtain ⟨g17, h⟩ := oif_some h
        obtain ⟨n18, en18, h⟩ := obind_some h
        exact GR.tr p0 (sr_X5_record_b34 ih _ _ _ _ _ _ _ _ h)
set_option maxHeartbeats 4000000 in
set_option maxRecDepth 100000 in
theorem sr_X5_record {T : AT} {o : Nat} {a0 : Nat} {a1 : Nat} {T1 : AT} (h : g_X5_record T o a0 a1 = some T1) : GR T T1 := by
  have p0 := GR.rf T
  unfold g_X5_record at h
  obtain ⟨g2, h⟩ := oif_some h
  obtain ⟨T3, eT3, h⟩ := obind_some h
  have p1 : GR T T3 := GR.tr p0 (gr_sp (s_X5_silence eT3))
  exact GR.tr p1 (sr_X5_record_b6 _ _ _ _ _ _ h)
set_option maxHeartbeats 4000000 in
set_option maxRecDepth 100000 in
theorem sr_X5_recordPoint_b89 {T1 : AT} : ∀ (T : AT), g_X5_recordPoint_b89 T = some T1 → GR T T1 := by
  intro T h
  have p0 := GR.rf T
  unfold g_X5_recordPoint_b89 at h
  rw [← osome1 h]
  exact p0
set_option maxHeartbeats 4000000 in
set_option maxRecDepth 100000 in
theorem sr_X5_recordPoint_b53 {T1 : AT} : ∀ n : Nat, ∀ (T : AT) (l0 : Nat) (l1 : Nat) (l2 : Nat) (l5 : Int32) (l6 : Int32) (l7 : Int32), g_X5_recordPoint_b53 n T l0 l1 l2 l5 l6 l7 = some T1 → GR T T1 := by
  intro n
  induction n with
  | zero =>
    intro T l0 l1 l2 l5 l6 l7 h
    have h : (none : Option (AT)) = some T1 := h
    cases h
  | succ n ih =>
    intro T l0 l1 l2 l5 l6 l7 h
    have p0 := GR.rf T
    unfold g_X5_recordPoint_b53 at h
    obtain ⟨g2, h⟩ := oif_some h
    obtain ⟨v3, -, h⟩ := elet_some h
    rcases oif_or h with ⟨c4, h⟩ | ⟨c4, h⟩
    · have h := h
      obtain ⟨g5, h⟩ := oif_some h
      obtain ⟨T6, eT6, h⟩ := obind_some h
      have p1 : GR T T6 := GR.tr p0 (sr_X5_finish eT6)
      exact GR.tr p1 (sr_X5_recordPoint_b89 _ h)
    · have h := h
      obtain ⟨g8, h⟩ := oif_some h
      obtain ⟨n9, en9, h⟩ := obind_some h
      obtain ⟨g10, h⟩ := oif_some h
      obtain ⟨T11, eT11, h⟩ := obind_some h
      have p1 : GR T T11 := GR.tr p0 (gr_sp (s_X5_hear eT11))
      obtain ⟨v13, ev13, h⟩ := elet_some h
      exact GR.tr p1 (ih _ _ _ _ _ _ _ h)
set_option maxHeartbeats 4000000 in
set_option maxRecDepth 100000 in
theorem sr_X5_recordPoint {T : AT} {o : Nat} {a0 : Nat} {a1 : Nat} {a2 : Int32} {a3 : Int32} {T1 : AT} (h : g_X5_recordPoint T o a0 a1 a2 a3 = some T1) : GR T T1 := by
  have p0 := GR.rf T
  unfold g_X5_recordPoint at h
  obtain ⟨g2, h⟩ := oif_some h
  obtain ⟨T3, eT3, h⟩ := obind_some h
  have p1 : GR T T3 := GR.tr p0 (gr_sp (s_X5_silence eT3))
  obtain ⟨g5, h⟩ := oif_some h
  obtain ⟨n6, en6, h⟩ := obind_some h
  obtain ⟨g7, h⟩ := oif_some h
  obtain ⟨T8, eT8, h⟩ := elet_some h
  have p2 : GR T T8 := GR.tr p1 (by rw [eT8]; exact gr_sp sp_uI)
  obtain ⟨g9, h⟩ := oif_some h
  obtain ⟨n10, en10, h⟩ := obind_some h
  obtain ⟨g11, h⟩ := oif_some h
  obtain ⟨T12, eT12, h⟩ := elet_some h
  have p3 : GR T T12 := GR.tr p2 (by rw [eT12]; exact gr_sp sp_uI)
  obtain ⟨g13, h⟩ := oif_some h
  obtain ⟨n14, en14, h⟩ := obind_some h
  obtain ⟨g15, h⟩ := oif_some h
  obtain ⟨T16, eT16, h⟩ := elet_some h
  have p4 : GR T T16 := GR.tr p3 (by rw [eT16]; exact gr_sp sp_uI)
  obtain ⟨g17, h⟩ := oif_some h
  obtain ⟨n18, en18, h⟩ := obind_some h
  obtain ⟨g19, h⟩ := oif_some h
  obtain ⟨r21, T20, eT20, h⟩ := obind2_some h
  have p5 : GR T T20 := GR.tr p4 (gr_sp (s_X1_centreX eT20))
  obtain ⟨g22, h⟩ := oif_some h
  obtain ⟨n23, en23, h⟩ := obind_some h
  obtain ⟨g24, h⟩ := oif_some h
  obtain ⟨r26, T25, eT25, h⟩ := obind2_some h
  have p6 : GR T T25 := GR.tr p5 (gr_sp (s_X1_centreY eT25))
  exact GR.tr p6 (sr_X5_recordPoint_b53 _ _ _ _ _ _ _ _ h)
set_option maxHeartbeats 4000000 in
set_option maxRecDepth 100000 in
theorem sr_X10_copyFrom_b18 {T1 : AT} : ∀ n : Nat, ∀ (T : AT) (l0 : Nat) (l1 : Nat) (l2 : Int32), g_X10_copyFrom_b18 n T l0 l1 l2 = some T1 → GR T T1 := by
  intro n
  induction n with
  | zero =>
    intro T l0 l1 l2 h
    have h : (none : Option (AT)) = some T1 := h
    cases h
  | succ n ih =>
    intro T l0 l1 l2 h
    have p0 := GR.rf T
    unfold g_X10_copyFrom_b18 at h
    obtain ⟨g2, h⟩ := oif_some h
    obtain ⟨v3, -, h⟩ := elet_some h
    rcases oif_or h with ⟨c4, h⟩ | ⟨c4, h⟩
    · have h := h
      rw [← osome1 h]
      exact p0
    · have h := h
      obtain ⟨g5, h⟩ := oif_some h
      obtain ⟨n6, en6, h⟩ := obind_some h
      obtain ⟨g7, h⟩ := oif_some h
      obtain ⟨g8, h⟩ := oif_some h
      obtain ⟨n9, en9, h⟩ := obind_some h
      obtain ⟨g10, h⟩ := oif_some h
      obtain ⟨n11, en11, h⟩ := obind_some h
      obtain ⟨g12, h⟩ := oif_some h
      obtain ⟨g13, h⟩ := oif_some h
      obtain ⟨n14, en14, h⟩ := obind_some h
      obtain ⟨g15, h⟩ := oif_some h
      obtain ⟨v16, -, h⟩ := elet_some h
      obtain ⟨g17, h⟩ := oif_some h
      obtain ⟨v18, -, h⟩ := elet_some h
      obtain ⟨v19, -, h⟩ := elet_some h
      obtain ⟨g20, h⟩ := oif_some h
      obtain ⟨g21, h⟩ := oif_some h
      obtain ⟨g22, h⟩ := oif_some h
      obtain ⟨T23, eT23, h⟩ := elet_some h
      have p1 : GR T T23 := GR.tr p0 (by rw [eT23]; exact gr_sp sp_uC)
      obtain ⟨v24, ev24, h⟩ := elet_some h
      exact GR.tr p1 (ih _ _ _ _ h)
set_option maxHeartbeats 4000000 in
set_option maxRecDepth 100000 in
theorem sr_X10_copyFrom_b8 {T1 : AT} : ∀ (T : AT) (l0 : Nat) (l1 : Nat), g_X10_copyFrom_b8 T l0 l1 = some T1 → GR T T1 := by
  intro T l0 l1 h
  have p0 := GR.rf T
  unfold g_X10_copyFrom_b8 at h
  obtain ⟨g2, h⟩ := oif_some h
  obtain ⟨v3, -, h⟩ := elet_some h
  obtain ⟨g4, h⟩ := oif_some h
  obtain ⟨T5, eT5, h⟩ := elet_some h
  have p1 : GR T T5 := GR.tr p0 (by rw [eT5]; exact gr_sp sp_uI)
  exact GR.tr p1 (sr_X10_copyFrom_b18 _ _ _ _ _ h)
set_option maxHeartbeats 4000000 in
set_option maxRecDepth 100000 in
theorem sr_X10_copyFrom {T : AT} {o : Nat} {a0 : Nat} {T1 : AT} (h : g_X10_copyFrom T o a0 = some T1) : GR T T1 := by
  have p0 := GR.rf T
  unfold g_X10_copyFrom at h
  obtain ⟨g2, h⟩ := oif_some h
  obtain ⟨v3, -, h⟩ := elet_some h
  obtain ⟨g4, h⟩ := oif_some h
  obtain ⟨T5, eT5, h⟩ := obind_some h
  have p1 : GR T T5 := GR.tr p0 (sr_X10_widenTo eT5)
  exact GR.tr p1 (sr_X10_copyFrom_b8 _ _ _ h)
set_option maxHeartbeats 4000000 in
set_option maxRecDepth 100000 in
theorem sr_X8_copyFrom_b147 {T1 : AT} : ∀ (T : AT), g_X8_copyFrom_b147 T = some T1 → GR T T1 := by
  intro T h
  have p0 := GR.rf T
  unfold g_X8_copyFrom_b147 at h
  rw [← osome1 h]
  exact p0
set_option maxHeartbeats 4000000 in
set_option maxRecDepth 100000 in
theorem sr_X8_copyFrom_b64 {T1 : AT} : ∀ n : Nat, ∀ (T : AT) (l0 : Nat) (l1 : Nat) (l2 : Int32), g_X8_copyFrom_b64 n T l0 l1 l2 = some T1 → GR T T1 := by
  intro n
  induction n with
  | zero =>
    intro T l0 l1 l2 h
    have h : (none : Option (AT)) = some T1 := h
    cases h
  | succ n ih =>
    intro T l0 l1 l2 h
    have p0 := GR.rf T
    unfold g_X8_copyFrom_b64 at h
    rcases oif_or h with ⟨c2, h⟩ | ⟨c2, h⟩
    · have h := h
      obtain ⟨g3, h⟩ := oif_some h
      obtain ⟨n4, en4, h⟩ := obind_some h
      obtain ⟨g5, h⟩ := oif_some h
      obtain ⟨n6, en6, h⟩ := obind_some h
      obtain ⟨g7, h⟩ := oif_some h
      obtain ⟨T8, eT8, h⟩ := obind_some h
      have p1 : GR T T8 := GR.tr p0 (sr_X10_copyFrom eT8)
      exact GR.tr p1 (sr_X8_copyFrom_b147 _ h)
    · have h := h
      obtain ⟨g10, h⟩ := oif_some h
      obtain ⟨n11, en11, h⟩ := obind_some h
      obtain ⟨g12, h⟩ := oif_some h
      obtain ⟨n13, en13, h⟩ := obind_some h
      obtain ⟨g14, h⟩ := oif_some h
      obtain ⟨g15, h⟩ := oif_some h
      obtain ⟨v16, -, h⟩ := elet_some h
      obtain ⟨g17, h⟩ := oif_some h
      obtain ⟨g18, h⟩ := oif_some h
      obtain ⟨gz, h⟩ := oif_some h
      obtain ⟨T19, eT19, h⟩ := elet_some h
      have p1 : GR T T19 := GR.tr p0 (by rw [eT19]; exact gr_sp sp_uI)
      obtain ⟨g20, h⟩ := oif_some h
      obtain ⟨n21, en21, h⟩ := obind_some h
      obtain ⟨g22, h⟩ := oif_some h
      obtain ⟨n23, en23, h⟩ := obind_some h
      obtain ⟨g24, h⟩ := oif_some h
      obtain ⟨g25, h⟩ := oif_some h
      obtain ⟨v26, -, h⟩ := elet_some h
      obtain ⟨g27, h⟩ := oif_some h
      obtain ⟨g28, h⟩ := oif_some h
      obtain ⟨T29, eT29, h⟩ := elet_some h
      have p2 : GR T T29 := GR.tr p1 (by rw [eT29]; exact gr_sp sp_uI)
      obtain ⟨g30, h⟩ := oif_some h
      obtain ⟨n31, en31, h⟩ := obind_some h
      obtain ⟨g32, h⟩ := oif_some h
      obtain ⟨n33, en33, h⟩ := obind_some h
      obtain ⟨g34, h⟩ := oif_some h
      obtain ⟨g35, h⟩ := oif_some h
      obtain ⟨v36, -, h⟩ := elet_some h
      obtain ⟨g37, h⟩ := oif_some h
      obtain ⟨g38, h⟩ := oif_some h
      obtain ⟨T39, eT39, h⟩ := elet_some h
      have p3 : GR T T39 := GR.tr p2 (by rw [eT39]; exact gr_sp sp_uI)
      obtain ⟨g40, h⟩ := oif_some h
      obtain ⟨n41, en41, h⟩ := obind_some h
      obtain ⟨g42, h⟩ := oif_some h
      obtain ⟨n43, en43, h⟩ := obind_some h
      obtain ⟨g44, h⟩ := oif_some h
      obtain ⟨g45, h⟩ := oif_some h
      obtain ⟨v46, -, h⟩ := elet_some h
      obtain ⟨g47, h⟩ := oif_some h
      obtain ⟨g48, h⟩ := oif_some h
      obtain ⟨T49, eT49, h⟩ := elet_some h
      have p4 : GR T T49 := GR.tr p3 (by rw [eT49]; exact gr_sp sp_uI)
      obtain ⟨g50, h⟩ := oif_some h
      obtain ⟨n51, en51, h⟩ := obind_some h
      obtain ⟨g52, h⟩ := oif_some h
      obtain ⟨n53, en53, h⟩ := obind_some h
      obtain ⟨g54, h⟩ := oif_some h
      obtain ⟨g55, h⟩ := oif_some h
      obtain ⟨v56, -, h⟩ := elet_some h
      obtain ⟨g57, h⟩ := oif_some h
      obtain ⟨g58, h⟩ := oif_some h
      obtain ⟨T59, eT59, h⟩ := elet_some h
      have p5 : GR T T59 := GR.tr p4 (by rw [eT59]; exact gr_sp sp_uI)
      obtain ⟨v60, ev60, h⟩ := elet_some h
      exact GR.tr p5 (ih _ _ _ _ h)
set_option maxHeartbeats 4000000 in
set_option maxRecDepth 100000 in
theorem sr_X8_copyFrom_b26 {T1 : AT} : ∀ n : Nat, ∀ (T : AT) (l0 : Nat) (l1 : Nat) (l2 : Int32), g_X8_copyFrom_b26 n T l0 l1 l2 = some T1 → GR T T1 := by
  intro n
  induction n with
  | zero =>
    intro T l0 l1 l2 h
    have h : (none : Option (AT)) = some T1 := h
    cases h
  | succ n ih =>
    intro T l0 l1 l2 h
    have p0 := GR.rf T
    unfold g_X8_copyFrom_b26 at h
    rcases oif_or h with ⟨c2, h⟩ | ⟨c2, h⟩
    · have h := h
      exact GR.tr p0 (sr_X8_copyFrom_b64 _ _ _ _ _ h)
    · have h := h
      obtain ⟨g3, h⟩ := oif_some h
      obtain ⟨n4, en4, h⟩ := obind_some h
      obtain ⟨g5, h⟩ := oif_some h
      obtain ⟨n6, en6, h⟩ := obind_some h
      obtain ⟨g7, h⟩ := oif_some h
      obtain ⟨g8, h⟩ := oif_some h
      obtain ⟨v9, -, h⟩ := elet_some h
      obtain ⟨g10, h⟩ := oif_some h
      obtain ⟨g11, h⟩ := oif_some h
      obtain ⟨gz, h⟩ := oif_some h
      obtain ⟨T12, eT12, h⟩ := elet_some h
      have p1 : GR T T12 := GR.tr p0 (by rw [eT12]; exact gr_sp sp_uI)
      obtain ⟨g13, h⟩ := oif_some h
      obtain ⟨n14, en14, h⟩ := obind_some h
      obtain ⟨g15, h⟩ := oif_some h
      obtain ⟨n16, en16, h⟩ := obind_some h
      obtain ⟨g17, h⟩ := oif_some h
      obtain ⟨g18, h⟩ := oif_some h
      obtain ⟨v19, -, h⟩ := elet_some h
      obtain ⟨g20, h⟩ := oif_some h
      obtain ⟨g21, h⟩ := oif_some h
      obtain ⟨T22, eT22, h⟩ := elet_some h
      have p2 : GR T T22 := GR.tr p1 (by rw [eT22]; exact gr_sp sp_uI)
      obtain ⟨v23, ev23, h⟩ := elet_some h
      exact GR.tr p2 (ih _ _ _ _ h)
set_option maxHeartbeats 4000000 in
set_option maxRecDepth 100000 in
theorem sr_X8_copyFrom {T : AT} {o : Nat} {a0 : Nat} {T1 : AT} (h : g_X8_copyFrom T o a0 = some T1) : GR T T1 := by
  have p0 := GR.rf T
  unfold g_X8_copyFrom at h
  obtain ⟨g2, h⟩ := oif_some h
  obtain ⟨v3, -, h⟩ := elet_some h
  obtain ⟨g4, h⟩ := oif_some h
  obtain ⟨T5, eT5, h⟩ := elet_some h
  have p1 : GR T T5 := GR.tr p0 (by rw [eT5]; exact gr_sp sp_uI)
  obtain ⟨g6, h⟩ := oif_some h
  obtain ⟨v7, -, h⟩ := elet_some h
  obtain ⟨g8, h⟩ := oif_some h
  obtain ⟨T9, eT9, h⟩ := elet_some h
  have p2 : GR T T9 := GR.tr p1 (by rw [eT9]; exact gr_sp sp_uI)
  obtain ⟨g10, h⟩ := oif_some h
  obtain ⟨v11, -, h⟩ := elet_some h
  obtain ⟨g12, h⟩ := oif_some h
  obtain ⟨T13, eT13, h⟩ := elet_some h
  have p3 : GR T T13 := GR.tr p2 (by rw [eT13]; exact gr_sp sp_uI)
  exact GR.tr p3 (sr_X8_copyFrom_b26 _ _ _ _ _ h)
set_option maxHeartbeats 4000000 in
set_option maxRecDepth 100000 in
theorem sr_X8_powerOf_b13 {T1 : AT} : ∀ (T : AT), g_X8_powerOf_b13 T = some T1 → GR T T1 := by
  intro T h
  have p0 := GR.rf T
  unfold g_X8_powerOf_b13 at h
  rw [← osome1 h]
  exact p0
set_option maxHeartbeats 4000000 in
set_option maxRecDepth 100000 in
theorem sr_X8_powerOf {T : AT} {o : Nat} {a0 : Nat} {a1 : Nat} {a2 : Int32} {T1 : AT} (h : g_X8_powerOf T o a0 a1 a2 = some T1) : GR T T1 := by
  have p0 := GR.rf T
  unfold g_X8_powerOf at h
  obtain ⟨g2, h⟩ := oif_some h
  obtain ⟨r4, T3, eT3, h⟩ := obind2_some h
  have p1 : GR T T3 := GR.tr p0 (gr_sp (s_X8_windowOf eT3))
  obtain ⟨g5, h⟩ := oif_some h
  obtain ⟨T6, eT6, h⟩ := obind_some h
  have p2 : GR T T6 := GR.tr p1 (sr_X8_blockPowerOf eT6)
  exact GR.tr p2 (sr_X8_powerOf_b13 _ h)
set_option maxHeartbeats 4000000 in
set_option maxRecDepth 100000 in
theorem sr_X8_productSum_b50 {T1 : AT} {k10 : AT → Nat → Int32 → Int32 → Int32 → Nat → Int32 → Int32 → Option (AT)} (hk10 : ∀ (T : AT) (l0 : Nat) (l1 : Int32) (l2 : Int32) (l3 : Int32) (l4 : Nat) (l5 : Int32) (l6 : Int32), k10 T l0 l1 l2 l3 l4 l5 l6 = some T1 → GR T T1) : ∀ (T : AT) (l0 : Nat) (l1 : Int32) (l2 : Int32) (l3 : Int32) (l4 : Nat) (l5 : Int32) (l6 : Int32), g_X8_productSum_b50 k10 T l0 l1 l2 l3 l4 l5 l6 = some T1 → GR T T1 := by
  intro T l0 l1 l2 l3 l4 l5 l6 h
  have p0 := GR.rf T
  unfold g_X8_productSum_b50 at h
  obtain ⟨v2, ev2, h⟩ := elet_some h
  exact GR.tr p0 (hk10 _ _ _ _ _ _ _ _ h)
set_option maxHeartbeats 4000000 in
set_option maxRecDepth 100000 in
theorem sr_X8_productSum_b10 {T1 : AT} : ∀ n : Nat, ∀ (T : AT) (l0 : Nat) (l1 : Int32) (l2 : Int32) (l3 : Int32) (l4 : Nat) (l5 : Int32) (l6 : Int32), g_X8_productSum_b10 n T l0 l1 l2 l3 l4 l5 l6 = some T1 → GR T T1 := by
  intro n
  induction n with
  | zero =>
    intro T l0 l1 l2 l3 l4 l5 l6 h
    have h : (none : Option (AT)) = some T1 := h
    cases h
  | succ n ih =>
    intro T l0 l1 l2 l3 l4 l5 l6 h
    have p0 := GR.rf T
    unfold g_X8_productSum_b10 at h
    obtain ⟨v2, -, h⟩ := elet_some h
    obtain ⟨g3, h⟩ := oif_some h
    obtain ⟨v4, -, h⟩ := elet_some h
    rcases oif_or h with ⟨c5, h⟩ | ⟨c5, h⟩
    · have h := h
      rw [← osome1 h]
      exact p0
    · have h := h
      obtain ⟨g6, h⟩ := oif_some h
      obtain ⟨n7, en7, h⟩ := obind_some h
      obtain ⟨r8, -, h⟩ := obind_some h
      obtain ⟨g9, h⟩ := oif_some h
      obtain ⟨n10, en10, h⟩ := obind_some h
      obtain ⟨v11, -, h⟩ := elet_some h
      obtain ⟨r12, -, h⟩ := obind_some h
      obtain ⟨g13, h⟩ := oif_some h
      obtain ⟨T14, eT14, h⟩ := obind_some h
      have p1 : GR T T14 := GR.tr p0 (sr_X10_addProduct eT14)
      exact GR.tr p1 (sr_X8_productSum_b50 ih _ _ _ _ _ _ _ _ h)
set_option maxHeartbeats 4000000 in
set_option maxRecDepth 100000 in
theorem sr_X8_productSum {T : AT} {o : Nat} {a0 : Int32} {a1 : Int32} {a2 : Int32} {a3 : Nat} {a4 : Int32} {T1 : AT} (h : g_X8_productSum T o a0 a1 a2 a3 a4 = some T1) : GR T T1 := by
  have p0 := GR.rf T
  unfold g_X8_productSum at h
  obtain ⟨g2, h⟩ := oif_some h
  obtain ⟨T3, eT3, h⟩ := obind_some h
  have p1 : GR T T3 := GR.tr p0 (gr_sp (s_X10_clear eT3))
  exact GR.tr p1 (sr_X8_productSum_b10 _ _ _ _ _ _ _ _ _ h)
set_option maxHeartbeats 4000000 in
set_option maxRecDepth 100000 in
theorem sr_X10_multiply_b34 {T1 : AT} : ∀ (T : AT), g_X10_multiply_b34 T = some T1 → GR T T1 := by
  intro T h
  have p0 := GR.rf T
  unfold g_X10_multiply_b34 at h
  rw [← osome1 h]
  exact p0
set_option maxHeartbeats 4000000 in
set_option maxRecDepth 100000 in
theorem sr_X10_multiply_b2 {T1 : AT} : ∀ n : Nat, ∀ (T : AT) (l0 : Nat) (l1 : Int32) (l2 : Int32) (l3 : Int32), g_X10_multiply_b2 n T l0 l1 l2 l3 = some T1 → GR T T1 := by
  intro n
  induction n with
  | zero =>
    intro T l0 l1 l2 l3 h
    have h : (none : Option (AT)) = some T1 := h
    cases h
  | succ n ih =>
    intro T l0 l1 l2 l3 h
    have p0 := GR.rf T
    unfold g_X10_multiply_b2 at h
    obtain ⟨g2, h⟩ := oif_some h
    obtain ⟨v3, -, h⟩ := elet_some h
    rcases oif_or h with ⟨c4, h⟩ | ⟨c4, h⟩
    · have h := h
      obtain ⟨g5, h⟩ := oif_some h
      obtain ⟨T6, eT6, h⟩ := obind_some h
      have p1 : GR T T6 := GR.tr p0 (sr_X10_settle eT6)
      exact GR.tr p1 (sr_X10_multiply_b34 _ h)
    · have h := h
      obtain ⟨g8, h⟩ := oif_some h
      obtain ⟨n9, en9, h⟩ := obind_some h
      obtain ⟨g10, h⟩ := oif_some h
      obtain ⟨g11, h⟩ := oif_some h
      obtain ⟨n12, en12, h⟩ := obind_some h
      obtain ⟨g13, h⟩ := oif_some h
      obtain ⟨g14, h⟩ := oif_some h
      obtain ⟨v15, -, h⟩ := elet_some h
      obtain ⟨v16, -, h⟩ := elet_some h
      obtain ⟨v17, -, h⟩ := elet_some h
      obtain ⟨g18, h⟩ := oif_some h
      obtain ⟨g19, h⟩ := oif_some h
      obtain ⟨T20, eT20, h⟩ := elet_some h
      have p1 : GR T T20 := GR.tr p0 (by rw [eT20]; exact gr_sp sp_uJ)
      obtain ⟨v21, ev21, h⟩ := elet_some h
      exact GR.tr p1 (ih _ _ _ _ _ h)
set_option maxHeartbeats 4000000 in
set_option maxRecDepth 100000 in
theorem sr_X10_multiply {T : AT} {o : Nat} {a0 : Int32} {a1 : Int32} {T1 : AT} (h : g_X10_multiply T o a0 a1 = some T1) : GR T T1 := by
  have p0 := GR.rf T
  unfold g_X10_multiply at h
  exact GR.tr p0 (sr_X10_multiply_b2 _ _ _ _ _ _ h)
set_option maxHeartbeats 4000000 in
set_option maxRecDepth 100000 in
theorem sr_X8_subtractBeam_b115 {T1 : AT} {k18 : AT → Nat → Nat → Int32 → Int32 → Int32 → Int32 → Option (AT)} {k53 : AT → Nat → Nat → Int32 → Int32 → Int32 → Int32 → Int32 → Option (AT)} (hk18 : ∀ (T : AT) (l0 : Nat) (l1 : Nat) (l2 : Int32) (l3 : Int32) (l4 : Int32) (l5 : Int32), k18 T l0 l1 l2 l3 l4 l5 = some T1 → GR T T1) (hk53 : ∀ (T : AT) (l0 : Nat) (l1 : Nat) (l2 : Int32) (l3 : Int32) (l4 : Int32) (l5 : Int32) (l6 : Int32), k53 T l0 l1 l2 l3 l4 l5 l6 = some T1 → GR T T1) : ∀ (T : AT) (l0 : Nat) (l1 : Nat) (l2 : Int32) (l3 : Int32) (l4 : Int32) (l5 : Int32) (l6 : Int32), g_X8_subtractBeam_b115 k18 k53 T l0 l1 l2 l3 l4 l5 l6 = some T1 → GR T T1 := by
  intro T l0 l1 l2 l3 l4 l5 l6 h
  have p0 := GR.rf T
  unfold g_X8_subtractBeam_b115 at h
  obtain ⟨v2, ev2, h⟩ := elet_some h
  exact GR.tr p0 (hk53 _ _ _ _ _ _ _ _ h)
set_option maxHeartbeats 4000000 in
set_option maxRecDepth 100000 in
theorem sr_X8_subtractBeam_b53 {T1 : AT} {k18 : AT → Nat → Nat → Int32 → Int32 → Int32 → Int32 → Option (AT)} (hk18 : ∀ (T : AT) (l0 : Nat) (l1 : Nat) (l2 : Int32) (l3 : Int32) (l4 : Int32) (l5 : Int32), k18 T l0 l1 l2 l3 l4 l5 = some T1 → GR T T1) : ∀ n : Nat, ∀ (T : AT) (l0 : Nat) (l1 : Nat) (l2 : Int32) (l3 : Int32) (l4 : Int32) (l5 : Int32) (l6 : Int32), g_X8_subtractBeam_b53 k18 n T l0 l1 l2 l3 l4 l5 l6 = some T1 → GR T T1 := by
  intro n
  induction n with
  | zero =>
    intro T l0 l1 l2 l3 l4 l5 l6 h
    have h : (none : Option (AT)) = some T1 := h
    cases h
  | succ n ih =>
    intro T l0 l1 l2 l3 l4 l5 l6 h
    have p0 := GR.rf T
    unfold g_X8_subtractBeam_b53 at h
    obtain ⟨g2, h⟩ := oif_some h
    obtain ⟨v3, -, h⟩ := elet_some h
    rcases oif_or h with ⟨c4, h⟩ | ⟨c4, h⟩
    · have h := h
      obtain ⟨v5, ev5, h⟩ := elet_some h
      exact GR.tr p0 (hk18 _ _ _ _ _ _ _ h)
    · have h := h
      obtain ⟨g6, h⟩ := oif_some h
      obtain ⟨g7, h⟩ := oif_some h
      obtain ⟨v8, -, h⟩ := elet_some h
      obtain ⟨v9, -, h⟩ := elet_some h
      obtain ⟨g10, h⟩ := oif_some h
      obtain ⟨n11, en11, h⟩ := obind_some h
      obtain ⟨g12, h⟩ := oif_some h
      obtain ⟨g13, h⟩ := oif_some h
      obtain ⟨v14, -, h⟩ := elet_some h
      rcases oif_or h with ⟨c15, h⟩ | ⟨c15, h⟩
      · have h := h
        rcases oif_or h with ⟨c16, h⟩ | ⟨c16, h⟩
        · have h := h
          exact GR.tr p0 (sr_X8_subtractBeam_b115 hk18 ih _ _ _ _ _ _ _ _ h)
        · have h := h
          obtain ⟨g17, h⟩ := oif_some h
          obtain ⟨v18, -, h⟩ := elet_some h
          rcases oif_or h with ⟨c19, h⟩ | ⟨c19, h⟩
          · have h := h
            exact GR.tr p0 (sr_X8_subtractBeam_b115 hk18 ih _ _ _ _ _ _ _ _ h)
          · have h := h
            obtain ⟨g20, h⟩ := oif_some h
            obtain ⟨n21, en21, h⟩ := obind_some h
            obtain ⟨r22, -, h⟩ := obind_some h
            obtain ⟨g23, h⟩ := oif_some h
            obtain ⟨n24, en24, h⟩ := obind_some h
            obtain ⟨g25, h⟩ := oif_some h
            obtain ⟨T26, eT26, h⟩ := obind_some h
            have p1 : GR T T26 := GR.tr p0 (sr_X10_add eT26)
            exact GR.tr p1 (sr_X8_subtractBeam_b115 hk18 ih _ _ _ _ _ _ _ _ h)
      · have h := h
        exact GR.tr p0 (sr_X8_subtractBeam_b115 hk18 ih _ _ _ _ _ _ _ _ h)
set_option maxHeartbeats 4000000 in
set_option maxRecDepth 100000 in
theorem sr_X8_subtractBeam_b50 {T1 : AT} {k18 : AT → Nat → Nat → Int32 → Int32 → Int32 → Int32 → Option (AT)} (hk18 : ∀ (T : AT) (l0 : Nat) (l1 : Nat) (l2 : Int32) (l3 : Int32) (l4 : Int32) (l5 : Int32), k18 T l0 l1 l2 l3 l4 l5 = some T1 → GR T T1) : ∀ (T : AT) (l0 : Nat) (l1 : Nat) (l2 : Int32) (l3 : Int32) (l4 : Int32) (l5 : Int32), g_X8_subtractBeam_b50 k18 T l0 l1 l2 l3 l4 l5 = some T1 → GR T T1 := by
  intro T l0 l1 l2 l3 l4 l5 h
  have p0 := GR.rf T
  unfold g_X8_subtractBeam_b50 at h
  exact GR.tr p0 (sr_X8_subtractBeam_b53 hk18 _ _ _ _ _ _ _ _ _ h)
set_option maxHeartbeats 4000000 in
set_option maxRecDepth 100000 in
theorem sr_X8_subtractBeam_b41 {T1 : AT} {k18 : AT → Nat → Nat → Int32 → Int32 → Int32 → Int32 → Option (AT)} (hk18 : ∀ (T : AT) (l0 : Nat) (l1 : Nat) (l2 : Int32) (l3 : Int32) (l4 : Int32) (l5 : Int32), k18 T l0 l1 l2 l3 l4 l5 = some T1 → GR T T1) : ∀ (T : AT) (l0 : Nat) (l1 : Nat) (l2 : Int32) (l3 : Int32) (l4 : Int32) (l5 : Int32), g_X8_subtractBeam_b41 k18 T l0 l1 l2 l3 l4 l5 = some T1 → GR T T1 := by
  intro T l0 l1 l2 l3 l4 l5 h
  have p0 := GR.rf T
  unfold g_X8_subtractBeam_b41 at h
  obtain ⟨g2, h⟩ := oif_some h
  obtain ⟨n3, en3, h⟩ := obind_some h
  obtain ⟨g4, h⟩ := oif_some h
  obtain ⟨T5, eT5, h⟩ := obind_some h
  have p1 : GR T T5 := GR.tr p0 (sr_X10_divide eT5)
  exact GR.tr p1 (sr_X8_subtractBeam_b50 hk18 _ _ _ _ _ _ _ h)
set_option maxHeartbeats 4000000 in
set_option maxRecDepth 100000 in
theorem sr_X8_subtractBeam_b32 {T1 : AT} {k18 : AT → Nat → Nat → Int32 → Int32 → Int32 → Int32 → Option (AT)} (hk18 : ∀ (T : AT) (l0 : Nat) (l1 : Nat) (l2 : Int32) (l3 : Int32) (l4 : Int32) (l5 : Int32), k18 T l0 l1 l2 l3 l4 l5 = some T1 → GR T T1) : ∀ (T : AT) (l0 : Nat) (l1 : Nat) (l2 : Int32) (l3 : Int32) (l4 : Int32) (l5 : Int32), g_X8_subtractBeam_b32 k18 T l0 l1 l2 l3 l4 l5 = some T1 → GR T T1 := by
  intro T l0 l1 l2 l3 l4 l5 h
  have p0 := GR.rf T
  unfold g_X8_subtractBeam_b32 at h
  obtain ⟨g2, h⟩ := oif_some h
  obtain ⟨n3, en3, h⟩ := obind_some h
  obtain ⟨g4, h⟩ := oif_some h
  obtain ⟨T5, eT5, h⟩ := obind_some h
  have p1 : GR T T5 := GR.tr p0 (sr_X10_multiply eT5)
  exact GR.tr p1 (sr_X8_subtractBeam_b41 hk18 _ _ _ _ _ _ _ h)
set_option maxHeartbeats 4000000 in
set_option maxRecDepth 100000 in
theorem sr_X8_subtractBeam_b18 {T1 : AT} : ∀ n : Nat, ∀ (T : AT) (l0 : Nat) (l1 : Nat) (l2 : Int32) (l3 : Int32) (l4 : Int32) (l5 : Int32), g_X8_subtractBeam_b18 n T l0 l1 l2 l3 l4 l5 = some T1 → GR T T1 := by
  intro n
  induction n with
  | zero =>
    intro T l0 l1 l2 l3 l4 l5 h
    have h : (none : Option (AT)) = some T1 := h
    cases h
  | succ n ih =>
    intro T l0 l1 l2 l3 l4 l5 h
    have p0 := GR.rf T
    unfold g_X8_subtractBeam_b18 at h
    rcases oif_or h with ⟨c2, h⟩ | ⟨c2, h⟩
    · have h := h
      obtain ⟨g3, h⟩ := oif_some h
      obtain ⟨v4, -, h⟩ := elet_some h
      obtain ⟨v5, -, h⟩ := elet_some h
      obtain ⟨g6, h⟩ := oif_some h
      obtain ⟨T7, eT7, h⟩ := elet_some h
      have p1 : GR T T7 := GR.tr p0 (by rw [eT7]; exact gr_sp sp_uI)
      rw [← osome1 h]
      exact p1
    · have h := h
      obtain ⟨g8, h⟩ := oif_some h
      obtain ⟨T9, eT9, h⟩ := obind_some h
      have p1 : GR T T9 := GR.tr p0 (sr_X8_focus eT9)
      exact GR.tr p1 (sr_X8_subtractBeam_b32 ih _ _ _ _ _ _ _ h)
set_option maxHeartbeats 4000000 in
set_option maxRecDepth 100000 in
theorem sr_X8_subtractBeam {T : AT} {o : Nat} {a0 : Nat} {a1 : Int32} {T1 : AT} (h : g_X8_subtractBeam T o a0 a1 = some T1) : GR T T1 := by
  have p0 := GR.rf T
  unfold g_X8_subtractBeam at h
  obtain ⟨g2, h⟩ := oif_some h
  obtain ⟨r4, T3, eT3, h⟩ := obind2_some h
  have p1 : GR T T3 := GR.tr p0 (gr_sp (s_X8_activeWeight eT3))
  obtain ⟨v5, -, h⟩ := elet_some h
  obtain ⟨g6, h⟩ := oif_some h
  obtain ⟨r8, T7, eT7, h⟩ := obind2_some h
  have p2 : GR T T7 := GR.tr p1 (gr_sp (s_X8_windowOf eT7))
  exact GR.tr p2 (sr_X8_subtractBeam_b18 _ _ _ _ _ _ _ _ h)
set_option maxHeartbeats 4000000 in
set_option maxRecDepth 100000 in
theorem sr_X11_begin_b48 {T1 : AT} : ∀ n : Nat, ∀ (T : AT) (l0 : Nat) (l1 : Int32), g_X11_begin_b48 n T l0 l1 = some T1 → GR T T1 := by
  intro n
  induction n with
  | zero =>
    intro T l0 l1 h
    have h : (none : Option (AT)) = some T1 := h
    cases h
  | succ n ih =>
    intro T l0 l1 h
    have p0 := GR.rf T
    unfold g_X11_begin_b48 at h
    rcases oif_or h with ⟨c2, h⟩ | ⟨c2, h⟩
    · have h := h
      rw [← osome1 h]
      exact p0
    · have h := h
      obtain ⟨g3, h⟩ := oif_some h
      obtain ⟨n4, en4, h⟩ := obind_some h
      obtain ⟨g5, h⟩ := oif_some h
      obtain ⟨g6, h⟩ := oif_some h
      obtain ⟨T7, eT7, h⟩ := elet_some h
      have p1 : GR T T7 := GR.tr p0 (by rw [eT7]; exact gr_sp sp_uI)
      obtain ⟨v8, ev8, h⟩ := elet_some h
      exact GR.tr p1 (ih _ _ _ h)
set_option maxHeartbeats 4000000 in
set_option maxRecDepth 100000 in
theorem sr_X11_begin_b33 {T1 : AT} : ∀ (T : AT) (l0 : Nat), g_X11_begin_b33 T l0 = some T1 → GR T T1 := by
  intro T l0 h
  have p0 := GR.rf T
  unfold g_X11_begin_b33 at h
  obtain ⟨g2, h⟩ := oif_some h
  obtain ⟨T3, eT3, h⟩ := elet_some h
  have p1 : GR T T3 := GR.tr p0 (by rw [eT3]; exact gr_sp sp_uI)
  obtain ⟨g4, h⟩ := oif_some h
  obtain ⟨n5, en5, h⟩ := obind_some h
  obtain ⟨g6, h⟩ := oif_some h
  obtain ⟨T7, eT7, h⟩ := elet_some h
  have p2 : GR T T7 := GR.tr p1 (by rw [eT7]; exact gr_sp sp_uI)
  exact GR.tr p2 (sr_X11_begin_b48 _ _ _ _ h)
set_option maxHeartbeats 4000000 in
set_option maxRecDepth 100000 in
theorem sr_X11_begin {T : AT} {o : Nat} {T1 : AT} (h : g_X11_begin T o = some T1) : GR T T1 := by
  have p0 := GR.rf T
  unfold g_X11_begin at h
  obtain ⟨g2, h⟩ := oif_some h
  obtain ⟨n3, en3, h⟩ := obind_some h
  obtain ⟨g4, h⟩ := oif_some h
  obtain ⟨T5, eT5, h⟩ := obind_some h
  have p1 : GR T T5 := GR.tr p0 (gr_sp (s_X6_measureDelays eT5))
  obtain ⟨g7, h⟩ := oif_some h
  obtain ⟨n8, en8, h⟩ := obind_some h
  obtain ⟨g9, h⟩ := oif_some h
  obtain ⟨n10, en10, h⟩ := obind_some h
  obtain ⟨g11, h⟩ := oif_some h
  obtain ⟨T12, eT12, h⟩ := obind_some h
  have p2 : GR T T12 := GR.tr p1 (gr_sp (s_X8_begin eT12))
  obtain ⟨g14, h⟩ := oif_some h
  obtain ⟨n15, en15, h⟩ := obind_some h
  obtain ⟨g16, h⟩ := oif_some h
  obtain ⟨n17, en17, h⟩ := obind_some h
  obtain ⟨g18, h⟩ := oif_some h
  obtain ⟨n19, en19, h⟩ := obind_some h
  obtain ⟨g20, h⟩ := oif_some h
  obtain ⟨T21, eT21, h⟩ := obind_some h
  have p3 : GR T T21 := GR.tr p2 (sr_X5_record eT21)
  exact GR.tr p3 (sr_X11_begin_b33 _ _ h)
set_option maxHeartbeats 4000000 in
set_option maxRecDepth 100000 in
theorem sr_X11_beam_b49 {e1 : Nat} {r1 : Int32} {T1 : AT} : ∀ (T : AT) (l0 : Nat), g_X11_beam_b49 T l0 = some (e1, r1, T1) → GR T T1 := by
  intro T l0 h
  have p0 := GR.rf T
  unfold g_X11_beam_b49 at h
  obtain ⟨g2, h⟩ := oif_some h
  obtain ⟨n3, en3, h⟩ := obind_some h
  obtain ⟨g4, h⟩ := oif_some h
  obtain ⟨n5, en5, h⟩ := obind_some h
  obtain ⟨g6, h⟩ := oif_some h
  obtain ⟨r8, T7, eT7, h⟩ := obind2_some h
  have p1 : GR T T7 := GR.tr p0 (gr_sp (s_X10_value eT7))
  obtain ⟨v9, -, h⟩ := elet_some h
  rw [← (osome3 h).2.2]
  exact p1
set_option maxHeartbeats 4000000 in
set_option maxRecDepth 100000 in
theorem sr_X11_beam {T : AT} {o : Nat} {a0 : Int32} {a1 : Int32} {e1 : Nat} {r1 : Int32} {T1 : AT} (h : g_X11_beam T o a0 a1 = some (e1, r1, T1)) : GR T T1 := by
  have p0 := GR.rf T
  unfold g_X11_beam at h
  obtain ⟨g2, h⟩ := oif_some h
  rcases othr_s h with ⟨k9, r9, e9, -⟩ | ⟨r4, T3, eT3, h⟩
  · exact GR.tr p0 (gr_sp (s_X11_needCamera e9))
  have p1 : GR T T3 := GR.tr p0 (gr_sp (s_X11_needCamera eT3))
  obtain ⟨g5, h⟩ := oif_some h
  rcases othr_s h with ⟨k9, r9, e9, -⟩ | ⟨r7, T6, eT6, h⟩
  · exact GR.tr p1 (gr_sp (s_X11_needCell e9))
  have p2 : GR T T6 := GR.tr p1 (gr_sp (s_X11_needCell eT6))
  obtain ⟨g8, h⟩ := oif_some h
  obtain ⟨n9, en9, h⟩ := obind_some h
  obtain ⟨g10, h⟩ := oif_some h
  obtain ⟨n11, en11, h⟩ := obind_some h
  obtain ⟨g12, h⟩ := oif_some h
  obtain ⟨n13, en13, h⟩ := obind_some h
  obtain ⟨g14, h⟩ := oif_some h
  obtain ⟨g15, h⟩ := oif_some h
  obtain ⟨n16, en16, h⟩ := obind_some h
  obtain ⟨g17, h⟩ := oif_some h
  obtain ⟨r19, T18, eT18, h⟩ := obind2_some h
  have p3 : GR T T18 := GR.tr p2 (gr_sp (s_X8_windowOf eT18))
  obtain ⟨v20, -, h⟩ := elet_some h
  rcases othr_s h with ⟨k9, r9, e9, -⟩ | ⟨r22, T21, eT21, h⟩
  · exact GR.tr p3 (gr_sp (s_X11_needRange e9))
  have p4 : GR T T21 := GR.tr p3 (gr_sp (s_X11_needRange eT21))
  obtain ⟨g23, h⟩ := oif_some h
  obtain ⟨n24, en24, h⟩ := obind_some h
  obtain ⟨g25, h⟩ := oif_some h
  obtain ⟨n26, en26, h⟩ := obind_some h
  obtain ⟨g27, h⟩ := oif_some h
  obtain ⟨n28, en28, h⟩ := obind_some h
  obtain ⟨g29, h⟩ := oif_some h
  obtain ⟨g30, h⟩ := oif_some h
  obtain ⟨n31, en31, h⟩ := obind_some h
  obtain ⟨g32, h⟩ := oif_some h
  obtain ⟨T33, eT33, h⟩ := obind_some h
  have p5 : GR T T33 := GR.tr p4 (sr_X8_focus eT33)
  exact GR.tr p5 (sr_X11_beam_b49 _ _ h)
set_option maxHeartbeats 4000000 in
set_option maxRecDepth 100000 in
theorem sr_X11_powersNow_b33 {r1 : Nat} {T1 : AT} : ∀ (T : AT) (l0 : Nat), g_X11_powersNow_b33 T l0 = some (r1, T1) → GR T T1 := by
  intro T l0 h
  have p0 := GR.rf T
  unfold g_X11_powersNow_b33 at h
  obtain ⟨g2, h⟩ := oif_some h
  obtain ⟨n3, en3, h⟩ := obind_some h
  rw [← (osome2 h).2]
  exact p0
set_option maxHeartbeats 4000000 in
set_option maxRecDepth 100000 in
theorem sr_X11_powersNow_b25 {r1 : Nat} {T1 : AT} : ∀ (T : AT) (l0 : Nat), g_X11_powersNow_b25 T l0 = some (r1, T1) → GR T T1 := by
  intro T l0 h
  have p0 := GR.rf T
  unfold g_X11_powersNow_b25 at h
  obtain ⟨g2, h⟩ := oif_some h
  obtain ⟨n3, en3, h⟩ := obind_some h
  obtain ⟨g4, h⟩ := oif_some h
  obtain ⟨T5, eT5, h⟩ := elet_some h
  have p1 : GR T T5 := GR.tr p0 (by rw [eT5]; exact gr_sp sp_uI)
  exact GR.tr p1 (sr_X11_powersNow_b33 _ _ h)
set_option maxHeartbeats 4000000 in
set_option maxRecDepth 100000 in
theorem sr_X11_powersNow {T : AT} {o : Nat} {r1 : Nat} {T1 : AT} (h : g_X11_powersNow T o = some (r1, T1)) : GR T T1 := by
  have p0 := GR.rf T
  unfold g_X11_powersNow at h
  obtain ⟨g2, h⟩ := oif_some h
  obtain ⟨n3, en3, h⟩ := obind_some h
  obtain ⟨g4, h⟩ := oif_some h
  obtain ⟨v5, -, h⟩ := elet_some h
  rcases oif_or h with ⟨c6, h⟩ | ⟨c6, h⟩
  · have h := h
    obtain ⟨g7, h⟩ := oif_some h
    obtain ⟨n8, en8, h⟩ := obind_some h
    obtain ⟨g9, h⟩ := oif_some h
    obtain ⟨n10, en10, h⟩ := obind_some h
    obtain ⟨g11, h⟩ := oif_some h
    obtain ⟨n12, en12, h⟩ := obind_some h
    obtain ⟨g13, h⟩ := oif_some h
    obtain ⟨T14, eT14, h⟩ := obind_some h
    have p1 : GR T T14 := GR.tr p0 (sr_X4_measure eT14)
    exact GR.tr p1 (sr_X11_powersNow_b25 _ _ h)
  · have h := h
    exact GR.tr p0 (sr_X11_powersNow_b33 _ _ h)
set_option maxHeartbeats 4000000 in
set_option maxRecDepth 100000 in
theorem sr_X11_power_b13 {e1 : Nat} {r1 : Int64} {T1 : AT} : ∀ (T : AT) (s0 : Nat) (l1 : Int32), g_X11_power_b13 T s0 l1 = some (e1, r1, T1) → GR T T1 := by
  intro T s0 l1 h
  have p0 := GR.rf T
  unfold g_X11_power_b13 at h
  obtain ⟨g2, h⟩ := oif_some h
  obtain ⟨n3, en3, h⟩ := obind_some h
  obtain ⟨g4, h⟩ := oif_some h
  obtain ⟨r6, T5, eT5, h⟩ := obind2_some h
  have p1 : GR T T5 := GR.tr p0 (gr_sp (s_X10_value eT5))
  rw [← (osome3 h).2.2]
  exact p1
set_option maxHeartbeats 4000000 in
set_option maxRecDepth 100000 in
theorem sr_X11_power {T : AT} {o : Nat} {a0 : Int32} {e1 : Nat} {r1 : Int64} {T1 : AT} (h : g_X11_power T o a0 = some (e1, r1, T1)) : GR T T1 := by
  have p0 := GR.rf T
  unfold g_X11_power at h
  obtain ⟨g2, h⟩ := oif_some h
  rcases othr_s h with ⟨k9, r9, e9, -⟩ | ⟨r4, T3, eT3, h⟩
  · exact GR.tr p0 (gr_sp (s_X11_needCamera e9))
  have p1 : GR T T3 := GR.tr p0 (gr_sp (s_X11_needCamera eT3))
  obtain ⟨g5, h⟩ := oif_some h
  rcases othr_s h with ⟨k9, r9, e9, -⟩ | ⟨r7, T6, eT6, h⟩
  · exact GR.tr p1 (gr_sp (s_X11_needCell e9))
  have p2 : GR T T6 := GR.tr p1 (gr_sp (s_X11_needCell eT6))
  obtain ⟨g8, h⟩ := oif_some h
  obtain ⟨r10, T9, eT9, h⟩ := obind2_some h
  obtain ⟨g11, h⟩ := oif_some h
  have p3 : GR T T9 := GR.tr p2 (sr_X11_powersNow eT9)
  exact GR.tr p3 (sr_X11_power_b13 _ _ _ h)
set_option maxHeartbeats 4000000 in
set_option maxRecDepth 100000 in
theorem sr_X11_powerAt_b53 {e1 : Nat} {r1 : Int64} {T1 : AT} : ∀ (T : AT) (l0 : Nat), g_X11_powerAt_b53 T l0 = some (e1, r1, T1) → GR T T1 := by
  intro T l0 h
  have p0 := GR.rf T
  unfold g_X11_powerAt_b53 at h
  obtain ⟨g2, h⟩ := oif_some h
  obtain ⟨n3, en3, h⟩ := obind_some h
  obtain ⟨g4, h⟩ := oif_some h
  obtain ⟨r6, T5, eT5, h⟩ := obind2_some h
  have p1 : GR T T5 := GR.tr p0 (gr_sp (s_X10_value eT5))
  rw [← (osome3 h).2.2]
  exact p1
set_option maxHeartbeats 4000000 in
set_option maxRecDepth 100000 in
theorem sr_X11_powerAt {T : AT} {o : Nat} {a0 : Int32} {a1 : Int32} {e1 : Nat} {r1 : Int64} {T1 : AT} (h : g_X11_powerAt T o a0 a1 = some (e1, r1, T1)) : GR T T1 := by
  have p0 := GR.rf T
  unfold g_X11_powerAt at h
  obtain ⟨g2, h⟩ := oif_some h
  rcases othr_s h with ⟨k9, r9, e9, -⟩ | ⟨r4, T3, eT3, h⟩
  · exact GR.tr p0 (gr_sp (s_X11_needCamera e9))
  have p1 : GR T T3 := GR.tr p0 (gr_sp (s_X11_needCamera eT3))
  rcases othr_s h with ⟨k9, r9, e9, -⟩ | ⟨r6, T5, eT5, h⟩
  · exact GR.tr p1 (gr_sp (s_X11_needRange e9))
  have p2 : GR T T5 := GR.tr p1 (gr_sp (s_X11_needRange eT5))
  rcases othr_s h with ⟨k9, r9, e9, -⟩ | ⟨r8, T7, eT7, h⟩
  · exact GR.tr p2 (gr_sp (s_X11_needRange e9))
  have p3 : GR T T7 := GR.tr p2 (gr_sp (s_X11_needRange eT7))
  obtain ⟨g9, h⟩ := oif_some h
  obtain ⟨n10, en10, h⟩ := obind_some h
  obtain ⟨g11, h⟩ := oif_some h
  obtain ⟨n12, en12, h⟩ := obind_some h
  obtain ⟨g13, h⟩ := oif_some h
  obtain ⟨T14, eT14, h⟩ := obind_some h
  have p4 : GR T T14 := GR.tr p3 (gr_sp (s_X6_delaysFrom eT14))
  obtain ⟨g16, h⟩ := oif_some h
  obtain ⟨n17, en17, h⟩ := obind_some h
  obtain ⟨g18, h⟩ := oif_some h
  obtain ⟨n19, en19, h⟩ := obind_some h
  obtain ⟨g20, h⟩ := oif_some h
  obtain ⟨n21, en21, h⟩ := obind_some h
  obtain ⟨g22, h⟩ := oif_some h
  obtain ⟨T23, eT23, h⟩ := obind_some h
  have p5 : GR T T23 := GR.tr p4 (sr_X8_powerOf eT23)
  exact GR.tr p5 (sr_X11_powerAt_b53 _ _ h)
set_option maxHeartbeats 4000000 in
set_option maxRecDepth 100000 in
theorem sr_X11_best_b8 {e1 : Nat} {r1 : Int32} {T1 : AT} : ∀ (T : AT) (s0 : Nat), g_X11_best_b8 T s0 = some (e1, r1, T1) → GR T T1 := by
  intro T s0 h
  have p0 := GR.rf T
  unfold g_X11_best_b8 at h
  obtain ⟨g2, h⟩ := oif_some h
  obtain ⟨v3, -, h⟩ := elet_some h
  rw [← (osome3 h).2.2]
  exact p0
set_option maxHeartbeats 4000000 in
set_option maxRecDepth 100000 in
theorem sr_X11_best {T : AT} {o : Nat} {e1 : Nat} {r1 : Int32} {T1 : AT} (h : g_X11_best T o = some (e1, r1, T1)) : GR T T1 := by
  have p0 := GR.rf T
  unfold g_X11_best at h
  obtain ⟨g2, h⟩ := oif_some h
  rcases othr_s h with ⟨k9, r9, e9, -⟩ | ⟨r4, T3, eT3, h⟩
  · exact GR.tr p0 (gr_sp (s_X11_needCamera e9))
  have p1 : GR T T3 := GR.tr p0 (gr_sp (s_X11_needCamera eT3))
  obtain ⟨g5, h⟩ := oif_some h
  obtain ⟨r7, T6, eT6, h⟩ := obind2_some h
  obtain ⟨g8, h⟩ := oif_some h
  have p2 : GR T T6 := GR.tr p1 (sr_X11_powersNow eT6)
  exact GR.tr p2 (sr_X11_best_b8 _ _ h)
set_option maxHeartbeats 4000000 in
set_option maxRecDepth 100000 in
theorem sr_X11_bestPower_b8 {e1 : Nat} {r1 : Int64} {T1 : AT} : ∀ (T : AT) (s0 : Nat), g_X11_bestPower_b8 T s0 = some (e1, r1, T1) → GR T T1 := by
  intro T s0 h
  have p0 := GR.rf T
  unfold g_X11_bestPower_b8 at h
  obtain ⟨g2, h⟩ := oif_some h
  obtain ⟨n3, en3, h⟩ := obind_some h
  obtain ⟨g4, h⟩ := oif_some h
  obtain ⟨v5, -, h⟩ := elet_some h
  obtain ⟨g6, h⟩ := oif_some h
  obtain ⟨r8, T7, eT7, h⟩ := obind2_some h
  have p1 : GR T T7 := GR.tr p0 (gr_sp (s_X10_value eT7))
  rw [← (osome3 h).2.2]
  exact p1
set_option maxHeartbeats 4000000 in
set_option maxRecDepth 100000 in
theorem sr_X11_bestPower {T : AT} {o : Nat} {e1 : Nat} {r1 : Int64} {T1 : AT} (h : g_X11_bestPower T o = some (e1, r1, T1)) : GR T T1 := by
  have p0 := GR.rf T
  unfold g_X11_bestPower at h
  obtain ⟨g2, h⟩ := oif_some h
  rcases othr_s h with ⟨k9, r9, e9, -⟩ | ⟨r4, T3, eT3, h⟩
  · exact GR.tr p0 (gr_sp (s_X11_needCamera e9))
  have p1 : GR T T3 := GR.tr p0 (gr_sp (s_X11_needCamera eT3))
  obtain ⟨g5, h⟩ := oif_some h
  obtain ⟨r7, T6, eT6, h⟩ := obind2_some h
  obtain ⟨g8, h⟩ := oif_some h
  have p2 : GR T T6 := GR.tr p1 (sr_X11_powersNow eT6)
  exact GR.tr p2 (sr_X11_bestPower_b8 _ _ h)
set_option maxHeartbeats 4000000 in
set_option maxRecDepth 100000 in
theorem sr_X11_meanPower_b51 {e1 : Nat} {r1 : Int64} {T1 : AT} : ∀ (T : AT) (l0 : Nat), g_X11_meanPower_b51 T l0 = some (e1, r1, T1) → GR T T1 := by
  intro T l0 h
  have p0 := GR.rf T
  unfold g_X11_meanPower_b51 at h
  obtain ⟨g2, h⟩ := oif_some h
  obtain ⟨n3, en3, h⟩ := obind_some h
  obtain ⟨g4, h⟩ := oif_some h
  obtain ⟨r6, T5, eT5, h⟩ := obind2_some h
  have p1 : GR T T5 := GR.tr p0 (gr_sp (s_X10_value eT5))
  rw [← (osome3 h).2.2]
  exact p1
set_option maxHeartbeats 4000000 in
set_option maxRecDepth 100000 in
theorem sr_X11_meanPower_b33 {e1 : Nat} {r1 : Int64} {T1 : AT} : ∀ (T : AT) (l0 : Nat), g_X11_meanPower_b33 T l0 = some (e1, r1, T1) → GR T T1 := by
  intro T l0 h
  have p0 := GR.rf T
  unfold g_X11_meanPower_b33 at h
  obtain ⟨g2, h⟩ := oif_some h
  obtain ⟨n3, en3, h⟩ := obind_some h
  obtain ⟨g4, h⟩ := oif_some h
  obtain ⟨n5, en5, h⟩ := obind_some h
  obtain ⟨g6, h⟩ := oif_some h
  obtain ⟨n7, en7, h⟩ := obind_some h
  obtain ⟨g8, h⟩ := oif_some h
  obtain ⟨r10, T9, eT9, h⟩ := obind2_some h
  have p1 : GR T T9 := GR.tr p0 (gr_sp (s_X1_cells eT9))
  obtain ⟨g11, h⟩ := oif_some h
  obtain ⟨T12, eT12, h⟩ := obind_some h
  have p2 : GR T T12 := GR.tr p1 (sr_X10_divide eT12)
  exact GR.tr p2 (sr_X11_meanPower_b51 _ _ h)
set_option maxHeartbeats 4000000 in
set_option maxRecDepth 100000 in
theorem sr_X11_meanPower_b8 {e1 : Nat} {r1 : Int64} {T1 : AT} : ∀ (T : AT) (s0 : Nat) (l0 : Nat), g_X11_meanPower_b8 T s0 l0 = some (e1, r1, T1) → GR T T1 := by
  intro T s0 l0 h
  have p0 := GR.rf T
  unfold g_X11_meanPower_b8 at h
  obtain ⟨g2, h⟩ := oif_some h
  obtain ⟨n3, en3, h⟩ := obind_some h
  obtain ⟨g4, h⟩ := oif_some h
  obtain ⟨n5, en5, h⟩ := obind_some h
  obtain ⟨g6, h⟩ := oif_some h
  obtain ⟨n7, en7, h⟩ := obind_some h
  obtain ⟨g8, h⟩ := oif_some h
  obtain ⟨n9, en9, h⟩ := obind_some h
  obtain ⟨g10, h⟩ := oif_some h
  obtain ⟨n11, en11, h⟩ := obind_some h
  obtain ⟨g12, h⟩ := oif_some h
  obtain ⟨n13, en13, h⟩ := obind_some h
  obtain ⟨g14, h⟩ := oif_some h
  obtain ⟨T15, eT15, h⟩ := obind_some h
  have p1 : GR T T15 := GR.tr p0 (sr_X4_sumIn eT15)
  exact GR.tr p1 (sr_X11_meanPower_b33 _ _ h)
set_option maxHeartbeats 4000000 in
set_option maxRecDepth 100000 in
theorem sr_X11_meanPower {T : AT} {o : Nat} {e1 : Nat} {r1 : Int64} {T1 : AT} (h : g_X11_meanPower T o = some (e1, r1, T1)) : GR T T1 := by
  have p0 := GR.rf T
  unfold g_X11_meanPower at h
  obtain ⟨g2, h⟩ := oif_some h
  rcases othr_s h with ⟨k9, r9, e9, -⟩ | ⟨r4, T3, eT3, h⟩
  · exact GR.tr p0 (gr_sp (s_X11_needCamera e9))
  have p1 : GR T T3 := GR.tr p0 (gr_sp (s_X11_needCamera eT3))
  obtain ⟨g5, h⟩ := oif_some h
  obtain ⟨r7, T6, eT6, h⟩ := obind2_some h
  obtain ⟨g8, h⟩ := oif_some h
  have p2 : GR T T6 := GR.tr p1 (sr_X11_powersNow eT6)
  exact GR.tr p2 (sr_X11_meanPower_b8 _ _ _ h)
set_option maxHeartbeats 4000000 in
set_option maxRecDepth 100000 in
theorem sr_X11_peaks_b8 {e1 : Nat} {r1 : Int32} {T1 : AT} : ∀ (T : AT) (s0 : Nat), g_X11_peaks_b8 T s0 = some (e1, r1, T1) → GR T T1 := by
  intro T s0 h
  have p0 := GR.rf T
  unfold g_X11_peaks_b8 at h
  obtain ⟨g2, h⟩ := oif_some h
  obtain ⟨v3, -, h⟩ := elet_some h
  rw [← (osome3 h).2.2]
  exact p0
set_option maxHeartbeats 4000000 in
set_option maxRecDepth 100000 in
theorem sr_X11_peaks {T : AT} {o : Nat} {e1 : Nat} {r1 : Int32} {T1 : AT} (h : g_X11_peaks T o = some (e1, r1, T1)) : GR T T1 := by
  have p0 := GR.rf T
  unfold g_X11_peaks at h
  obtain ⟨g2, h⟩ := oif_some h
  rcases othr_s h with ⟨k9, r9, e9, -⟩ | ⟨r4, T3, eT3, h⟩
  · exact GR.tr p0 (gr_sp (s_X11_needCamera e9))
  have p1 : GR T T3 := GR.tr p0 (gr_sp (s_X11_needCamera eT3))
  obtain ⟨g5, h⟩ := oif_some h
  obtain ⟨r7, T6, eT6, h⟩ := obind2_some h
  obtain ⟨g8, h⟩ := oif_some h
  have p2 : GR T T6 := GR.tr p1 (sr_X11_powersNow eT6)
  exact GR.tr p2 (sr_X11_peaks_b8 _ _ h)
set_option maxHeartbeats 4000000 in
set_option maxRecDepth 100000 in
theorem sr_X11_peakAt_b8 {e1 : Nat} {r1 : Int32} {T1 : AT} : ∀ (T : AT) (s0 : Nat) (l1 : Int32), g_X11_peakAt_b8 T s0 l1 = some (e1, r1, T1) → GR T T1 := by
  intro T s0 l1 h
  have p0 := GR.rf T
  unfold g_X11_peakAt_b8 at h
  obtain ⟨g2, h⟩ := oif_some h
  obtain ⟨v3, -, h⟩ := elet_some h
  rcases othr_s h with ⟨k9, r9, e9, -⟩ | ⟨r5, T4, eT4, h⟩
  · exact GR.tr p0 (gr_sp (s_X11_needIndex e9))
  have p1 : GR T T4 := GR.tr p0 (gr_sp (s_X11_needIndex eT4))
  obtain ⟨g6, h⟩ := oif_some h
  obtain ⟨r8, T7, eT7, h⟩ := obind2_some h
  have p2 : GR T T7 := GR.tr p1 (gr_sp (s_X4_peakRanked eT7))
  rw [← (osome3 h).2.2]
  exact p2
set_option maxHeartbeats 4000000 in
set_option maxRecDepth 100000 in
theorem sr_X11_peakAt {T : AT} {o : Nat} {a0 : Int32} {e1 : Nat} {r1 : Int32} {T1 : AT} (h : g_X11_peakAt T o a0 = some (e1, r1, T1)) : GR T T1 := by
  have p0 := GR.rf T
  unfold g_X11_peakAt at h
  obtain ⟨g2, h⟩ := oif_some h
  rcases othr_s h with ⟨k9, r9, e9, -⟩ | ⟨r4, T3, eT3, h⟩
  · exact GR.tr p0 (gr_sp (s_X11_needCamera e9))
  have p1 : GR T T3 := GR.tr p0 (gr_sp (s_X11_needCamera eT3))
  obtain ⟨g5, h⟩ := oif_some h
  obtain ⟨r7, T6, eT6, h⟩ := obind2_some h
  obtain ⟨g8, h⟩ := oif_some h
  have p2 : GR T T6 := GR.tr p1 (sr_X11_powersNow eT6)
  exact GR.tr p2 (sr_X11_peakAt_b8 _ _ _ h)
set_option maxHeartbeats 4000000 in
set_option maxRecDepth 100000 in
theorem sr_X11_isPeak_b13 {e1 : Nat} {r1 : Int32} {T1 : AT} : ∀ (T : AT) (s0 : Nat) (l0 : Nat) (l1 : Int32), g_X11_isPeak_b13 T s0 l0 l1 = some (e1, r1, T1) → GR T T1 := by
  intro T s0 l0 l1 h
  have p0 := GR.rf T
  unfold g_X11_isPeak_b13 at h
  obtain ⟨g2, h⟩ := oif_some h
  obtain ⟨n3, en3, h⟩ := obind_some h
  obtain ⟨g4, h⟩ := oif_some h
  obtain ⟨n5, en5, h⟩ := obind_some h
  obtain ⟨g6, h⟩ := oif_some h
  obtain ⟨r8, T7, eT7, h⟩ := obind2_some h
  have p1 : GR T T7 := GR.tr p0 (gr_sp (s_X4_standsOut eT7))
  obtain ⟨gz, h⟩ := oif_some h
  rw [← (osome3 h).2.2]
  exact p1
set_option maxHeartbeats 4000000 in
set_option maxRecDepth 100000 in
theorem sr_X11_isPeak {T : AT} {o : Nat} {a0 : Int32} {e1 : Nat} {r1 : Int32} {T1 : AT} (h : g_X11_isPeak T o a0 = some (e1, r1, T1)) : GR T T1 := by
  have p0 := GR.rf T
  unfold g_X11_isPeak at h
  obtain ⟨g2, h⟩ := oif_some h
  rcases othr_s h with ⟨k9, r9, e9, -⟩ | ⟨r4, T3, eT3, h⟩
  · exact GR.tr p0 (gr_sp (s_X11_needCamera e9))
  have p1 : GR T T3 := GR.tr p0 (gr_sp (s_X11_needCamera eT3))
  obtain ⟨g5, h⟩ := oif_some h
  rcases othr_s h with ⟨k9, r9, e9, -⟩ | ⟨r7, T6, eT6, h⟩
  · exact GR.tr p1 (gr_sp (s_X11_needCell e9))
  have p2 : GR T T6 := GR.tr p1 (gr_sp (s_X11_needCell eT6))
  obtain ⟨g8, h⟩ := oif_some h
  obtain ⟨r10, T9, eT9, h⟩ := obind2_some h
  obtain ⟨g11, h⟩ := oif_some h
  have p3 : GR T T9 := GR.tr p2 (sr_X11_powersNow eT9)
  exact GR.tr p3 (sr_X11_isPeak_b13 _ _ _ _ h)
set_option maxHeartbeats 4000000 in
set_option maxRecDepth 100000 in
theorem sr_X11_zonePower_b49 {e1 : Nat} {r1 : Int64} {T1 : AT} : ∀ (T : AT) (l0 : Nat), g_X11_zonePower_b49 T l0 = some (e1, r1, T1) → GR T T1 := by
  intro T l0 h
  have p0 := GR.rf T
  unfold g_X11_zonePower_b49 at h
  obtain ⟨g2, h⟩ := oif_some h
  obtain ⟨n3, en3, h⟩ := obind_some h
  obtain ⟨g4, h⟩ := oif_some h
  obtain ⟨r6, T5, eT5, h⟩ := obind2_some h
  have p1 : GR T T5 := GR.tr p0 (gr_sp (s_X10_value eT5))
  rw [← (osome3 h).2.2]
  exact p1
set_option maxHeartbeats 4000000 in
set_option maxRecDepth 100000 in
theorem sr_X11_zonePower_b22 {e1 : Nat} {r1 : Int64} {T1 : AT} : ∀ (T : AT) (s0 : Nat) (l0 : Nat) (l1 : Int32), g_X11_zonePower_b22 T s0 l0 l1 = some (e1, r1, T1) → GR T T1 := by
  intro T s0 l0 l1 h
  have p0 := GR.rf T
  unfold g_X11_zonePower_b22 at h
  obtain ⟨g2, h⟩ := oif_some h
  obtain ⟨n3, en3, h⟩ := obind_some h
  obtain ⟨g4, h⟩ := oif_some h
  obtain ⟨n5, en5, h⟩ := obind_some h
  obtain ⟨g6, h⟩ := oif_some h
  obtain ⟨n7, en7, h⟩ := obind_some h
  obtain ⟨g8, h⟩ := oif_some h
  obtain ⟨g9, h⟩ := oif_some h
  obtain ⟨n10, en10, h⟩ := obind_some h
  obtain ⟨g11, h⟩ := oif_some h
  obtain ⟨n12, en12, h⟩ := obind_some h
  obtain ⟨g13, h⟩ := oif_some h
  obtain ⟨n14, en14, h⟩ := obind_some h
  obtain ⟨g15, h⟩ := oif_some h
  obtain ⟨n16, en16, h⟩ := obind_some h
  obtain ⟨g17, h⟩ := oif_some h
  obtain ⟨T18, eT18, h⟩ := obind_some h
  have p1 : GR T T18 := GR.tr p0 (sr_X4_sumIn eT18)
  exact GR.tr p1 (sr_X11_zonePower_b49 _ _ h)
set_option maxHeartbeats 4000000 in
set_option maxRecDepth 100000 in
theorem sr_X11_zonePower {T : AT} {o : Nat} {a0 : Int32} {e1 : Nat} {r1 : Int64} {T1 : AT} (h : g_X11_zonePower T o a0 = some (e1, r1, T1)) : GR T T1 := by
  have p0 := GR.rf T
  unfold g_X11_zonePower at h
  obtain ⟨g2, h⟩ := oif_some h
  rcases othr_s h with ⟨k9, r9, e9, -⟩ | ⟨r4, T3, eT3, h⟩
  · exact GR.tr p0 (gr_sp (s_X11_needCamera e9))
  have p1 : GR T T3 := GR.tr p0 (gr_sp (s_X11_needCamera eT3))
  obtain ⟨g5, h⟩ := oif_some h
  obtain ⟨n6, en6, h⟩ := obind_some h
  obtain ⟨g7, h⟩ := oif_some h
  obtain ⟨n8, en8, h⟩ := obind_some h
  obtain ⟨g9, h⟩ := oif_some h
  obtain ⟨v10, -, h⟩ := elet_some h
  rcases othr_s h with ⟨k9, r9, e9, -⟩ | ⟨r12, T11, eT11, h⟩
  · exact GR.tr p1 (gr_sp (s_X11_needIndex e9))
  have p2 : GR T T11 := GR.tr p1 (gr_sp (s_X11_needIndex eT11))
  obtain ⟨g13, h⟩ := oif_some h
  obtain ⟨r15, T14, eT14, h⟩ := obind2_some h
  obtain ⟨g16, h⟩ := oif_some h
  have p3 : GR T T14 := GR.tr p2 (sr_X11_powersNow eT14)
  exact GR.tr p3 (sr_X11_zonePower_b22 _ _ _ _ h)
set_option maxHeartbeats 4000000 in
set_option maxRecDepth 100000 in
theorem sr_X11_zoneBest_b41 {e1 : Nat} {r1 : Int32} {T1 : AT} : ∀ (T : AT) (s0 : Nat) (s1 : Nat) (s2 : Nat), g_X11_zoneBest_b41 T s0 s1 s2 = some (e1, r1, T1) → GR T T1 := by
  intro T s0 s1 s2 h
  have p0 := GR.rf T
  unfold g_X11_zoneBest_b41 at h
  obtain ⟨g2, h⟩ := oif_some h
  obtain ⟨n3, en3, h⟩ := obind_some h
  obtain ⟨g4, h⟩ := oif_some h
  obtain ⟨r6, T5, eT5, h⟩ := obind2_some h
  have p1 : GR T T5 := GR.tr p0 (gr_sp (s_X1_bestIn eT5))
  rw [← (osome3 h).2.2]
  exact p1
set_option maxHeartbeats 4000000 in
set_option maxRecDepth 100000 in
theorem sr_X11_zoneBest {T : AT} {o : Nat} {a0 : Int32} {e1 : Nat} {r1 : Int32} {T1 : AT} (h : g_X11_zoneBest T o a0 = some (e1, r1, T1)) : GR T T1 := by
  have p0 := GR.rf T
  unfold g_X11_zoneBest at h
  obtain ⟨g2, h⟩ := oif_some h
  rcases othr_s h with ⟨k9, r9, e9, -⟩ | ⟨r4, T3, eT3, h⟩
  · exact GR.tr p0 (gr_sp (s_X11_needCamera e9))
  have p1 : GR T T3 := GR.tr p0 (gr_sp (s_X11_needCamera eT3))
  obtain ⟨g5, h⟩ := oif_some h
  obtain ⟨n6, en6, h⟩ := obind_some h
  obtain ⟨g7, h⟩ := oif_some h
  obtain ⟨n8, en8, h⟩ := obind_some h
  obtain ⟨g9, h⟩ := oif_some h
  obtain ⟨v10, -, h⟩ := elet_some h
  rcases othr_s h with ⟨k9, r9, e9, -⟩ | ⟨r12, T11, eT11, h⟩
  · exact GR.tr p1 (gr_sp (s_X11_needIndex e9))
  have p2 : GR T T11 := GR.tr p1 (gr_sp (s_X11_needIndex eT11))
  obtain ⟨g13, h⟩ := oif_some h
  obtain ⟨n14, en14, h⟩ := obind_some h
  obtain ⟨g15, h⟩ := oif_some h
  obtain ⟨n16, en16, h⟩ := obind_some h
  obtain ⟨g17, h⟩ := oif_some h
  obtain ⟨n18, en18, h⟩ := obind_some h
  obtain ⟨g19, h⟩ := oif_some h
  obtain ⟨n20, en20, h⟩ := obind_some h
  obtain ⟨g21, h⟩ := oif_some h
  obtain ⟨n22, en22, h⟩ := obind_some h
  obtain ⟨g23, h⟩ := oif_some h
  obtain ⟨g24, h⟩ := oif_some h
  obtain ⟨n25, en25, h⟩ := obind_some h
  obtain ⟨g26, h⟩ := oif_some h
  obtain ⟨r28, T27, eT27, h⟩ := obind2_some h
  obtain ⟨g29, h⟩ := oif_some h
  have p3 : GR T T27 := GR.tr p2 (sr_X11_powersNow eT27)
  exact GR.tr p3 (sr_X11_zoneBest_b41 _ _ _ _ h)
set_option maxHeartbeats 4000000 in
set_option maxRecDepth 100000 in
theorem sr_X11_contrast_b45 {e1 : Nat} {r1 : UInt32} {T1 : AT} : ∀ (T : AT) (s0 : UInt32), g_X11_contrast_b45 T s0 = some (e1, r1, T1) → GR T T1 := by
  intro T s0 h
  have p0 := GR.rf T
  unfold g_X11_contrast_b45 at h
  rw [← (osome3 h).2.2]
  exact p0
set_option maxHeartbeats 4000000 in
set_option maxRecDepth 100000 in
theorem sr_X11_contrast_b8 {e1 : Nat} {r1 : UInt32} {T1 : AT} : ∀ (T : AT) (s0 : Nat) (l0 : Nat), g_X11_contrast_b8 T s0 l0 = some (e1, r1, T1) → GR T T1 := by
  intro T s0 l0 h
  have p0 := GR.rf T
  unfold g_X11_contrast_b8 at h
  obtain ⟨g2, h⟩ := oif_some h
  obtain ⟨n3, en3, h⟩ := obind_some h
  obtain ⟨g4, h⟩ := oif_some h
  obtain ⟨n5, en5, h⟩ := obind_some h
  obtain ⟨g6, h⟩ := oif_some h
  obtain ⟨r8, T7, eT7, h⟩ := obind2_some h
  have p1 : GR T T7 := GR.tr p0 (gr_sp (s_X1_cells eT7))
  obtain ⟨g9, h⟩ := oif_some h
  obtain ⟨r11, T10, eT10, h⟩ := obind2_some h
  have p2 : GR T T10 := GR.tr p1 (gr_sp (s_X4_second eT10))
  rcases oif_or h with ⟨c12, h⟩ | ⟨c12, h⟩
  · have h := h
    exact GR.tr p2 (sr_X11_contrast_b45 _ _ h)
  · have h := h
    obtain ⟨g13, h⟩ := oif_some h
    obtain ⟨n14, en14, h⟩ := obind_some h
    obtain ⟨g15, h⟩ := oif_some h
    obtain ⟨v16, -, h⟩ := elet_some h
    obtain ⟨g17, h⟩ := oif_some h
    obtain ⟨r19, T18, eT18, h⟩ := obind2_some h
    have p3 : GR T T18 := GR.tr p2 (gr_sp (s_X10_ratio eT18))
    exact GR.tr p3 (sr_X11_contrast_b45 _ _ h)
set_option maxHeartbeats 4000000 in
set_option maxRecDepth 100000 in
theorem sr_X11_contrast {T : AT} {o : Nat} {e1 : Nat} {r1 : UInt32} {T1 : AT} (h : g_X11_contrast T o = some (e1, r1, T1)) : GR T T1 := by
  have p0 := GR.rf T
  unfold g_X11_contrast at h
  obtain ⟨g2, h⟩ := oif_some h
  rcases othr_s h with ⟨k9, r9, e9, -⟩ | ⟨r4, T3, eT3, h⟩
  · exact GR.tr p0 (gr_sp (s_X11_needCamera e9))
  have p1 : GR T T3 := GR.tr p0 (gr_sp (s_X11_needCamera eT3))
  obtain ⟨g5, h⟩ := oif_some h
  obtain ⟨r7, T6, eT6, h⟩ := obind2_some h
  obtain ⟨g8, h⟩ := oif_some h
  have p2 : GR T T6 := GR.tr p1 (sr_X11_powersNow eT6)
  exact GR.tr p2 (sr_X11_contrast_b8 _ _ _ h)
set_option maxHeartbeats 4000000 in
set_option maxRecDepth 100000 in
theorem sr_X11_isAlias_b28 {e1 : Nat} {r1 : Int32} {T1 : AT} : ∀ (T : AT) (s0 : Nat) (s1 : Nat) (l1 : Int32) (l2 : Int32) (l3 : Int32), g_X11_isAlias_b28 T s0 s1 l1 l2 l3 = some (e1, r1, T1) → GR T T1 := by
  intro T s0 s1 l1 l2 l3 h
  have p0 := GR.rf T
  unfold g_X11_isAlias_b28 at h
  obtain ⟨g2, h⟩ := oif_some h
  obtain ⟨r4, T3, eT3, h⟩ := obind2_some h
  have p1 : GR T T3 := GR.tr p0 (gr_sp (s_X11_marksAlias eT3))
  obtain ⟨gz, h⟩ := oif_some h
  rw [← (osome3 h).2.2]
  exact p1
set_option maxHeartbeats 4000000 in
set_option maxRecDepth 100000 in
theorem sr_X11_isAlias {T : AT} {o : Nat} {a0 : Int32} {a1 : Int32} {a2 : Int32} {e1 : Nat} {r1 : Int32} {T1 : AT} (h : g_X11_isAlias T o a0 a1 a2 = some (e1, r1, T1)) : GR T T1 := by
  have p0 := GR.rf T
  unfold g_X11_isAlias at h
  obtain ⟨g2, h⟩ := oif_some h
  rcases othr_s h with ⟨k9, r9, e9, -⟩ | ⟨r4, T3, eT3, h⟩
  · exact GR.tr p0 (gr_sp (s_X11_needCamera e9))
  have p1 : GR T T3 := GR.tr p0 (gr_sp (s_X11_needCamera eT3))
  obtain ⟨g5, h⟩ := oif_some h
  rcases othr_s h with ⟨k9, r9, e9, -⟩ | ⟨r7, T6, eT6, h⟩
  · exact GR.tr p1 (gr_sp (s_X11_needCell e9))
  have p2 : GR T T6 := GR.tr p1 (gr_sp (s_X11_needCell eT6))
  rcases othr_s h with ⟨k9, r9, e9, -⟩ | ⟨r9, T8, eT8, h⟩
  · exact GR.tr p2 (gr_sp (s_X11_needRange e9))
  have p3 : GR T T8 := GR.tr p2 (gr_sp (s_X11_needRange eT8))
  rcases othr_s h with ⟨k9, r9, e9, -⟩ | ⟨r11, T10, eT10, h⟩
  · exact GR.tr p3 (gr_sp (s_X11_needRange e9))
  have p4 : GR T T10 := GR.tr p3 (gr_sp (s_X11_needRange eT10))
  obtain ⟨g12, h⟩ := oif_some h
  obtain ⟨r14, T13, eT13, h⟩ := obind2_some h
  obtain ⟨g15, h⟩ := oif_some h
  have p5 : GR T T13 := GR.tr p4 (sr_X11_powersNow eT13)
  exact GR.tr p5 (sr_X11_isAlias_b28 _ _ _ _ _ _ h)
set_option maxHeartbeats 4000000 in
set_option maxRecDepth 100000 in
theorem sr_X11_aliases_b59 {e1 : Nat} {r1 : Int32} {T1 : AT} {k29 : AT → Nat → Int32 → Int32 → Nat → Int32 → Int32 → Option (Nat × Int32 × AT)} (hk29 : ∀ (T : AT) (l0 : Nat) (l1 : Int32) (l2 : Int32) (l3 : Nat) (l4 : Int32) (l5 : Int32), k29 T l0 l1 l2 l3 l4 l5 = some (e1, r1, T1) → GR T T1) : ∀ (T : AT) (l0 : Nat) (l1 : Int32) (l2 : Int32) (l3 : Nat) (l4 : Int32) (l5 : Int32), g_X11_aliases_b59 k29 T l0 l1 l2 l3 l4 l5 = some (e1, r1, T1) → GR T T1 := by
  intro T l0 l1 l2 l3 l4 l5 h
  have p0 := GR.rf T
  unfold g_X11_aliases_b59 at h
  obtain ⟨v2, ev2, h⟩ := elet_some h
  exact GR.tr p0 (hk29 _ _ _ _ _ _ _ h)
set_option maxHeartbeats 4000000 in
set_option maxRecDepth 100000 in
theorem sr_X11_aliases_b29 {e1 : Nat} {r1 : Int32} {T1 : AT} : ∀ n : Nat, ∀ (T : AT) (l0 : Nat) (l1 : Int32) (l2 : Int32) (l3 : Nat) (l4 : Int32) (l5 : Int32), g_X11_aliases_b29 n T l0 l1 l2 l3 l4 l5 = some (e1, r1, T1) → GR T T1 := by
  intro n
  induction n with
  | zero =>
    intro T l0 l1 l2 l3 l4 l5 h
    have h : (none : Option (Nat × Int32 × AT)) = some (e1, r1, T1) := h
    cases h
  | succ n ih =>
    intro T l0 l1 l2 l3 l4 l5 h
    have p0 := GR.rf T
    unfold g_X11_aliases_b29 at h
    obtain ⟨g2, h⟩ := oif_some h
    obtain ⟨n3, en3, h⟩ := obind_some h
    obtain ⟨g4, h⟩ := oif_some h
    obtain ⟨n5, en5, h⟩ := obind_some h
    obtain ⟨g6, h⟩ := oif_some h
    obtain ⟨r8, T7, eT7, h⟩ := obind2_some h
    have p1 : GR T T7 := GR.tr p0 (gr_sp (s_X1_cells eT7))
    rcases oif_or h with ⟨c9, h⟩ | ⟨c9, h⟩
    · have h := h
      rw [← (osome3 h).2.2]
      exact p1
    · have h := h
      obtain ⟨g10, h⟩ := oif_some h
      obtain ⟨r12, T11, eT11, h⟩ := obind2_some h
      have p2 : GR T T11 := GR.tr p1 (gr_sp (s_X11_marksAlias eT11))
      rcases oif_or h with ⟨c13, h⟩ | ⟨c13, h⟩
      · have h := h
        exact GR.tr p2 (sr_X11_aliases_b59 ih _ _ _ _ _ _ _ h)
      · have h := h
        obtain ⟨v14, ev14, h⟩ := elet_some h
        exact GR.tr p2 (sr_X11_aliases_b59 ih _ _ _ _ _ _ _ h)
set_option maxHeartbeats 4000000 in
set_option maxRecDepth 100000 in
theorem sr_X11_aliases_b22 {e1 : Nat} {r1 : Int32} {T1 : AT} : ∀ (T : AT) (s0 : Nat) (l0 : Nat) (l1 : Int32) (l2 : Int32), g_X11_aliases_b22 T s0 l0 l1 l2 = some (e1, r1, T1) → GR T T1 := by
  intro T s0 l0 l1 l2 h
  have p0 := GR.rf T
  unfold g_X11_aliases_b22 at h
  exact GR.tr p0 (sr_X11_aliases_b29 _ _ _ _ _ _ _ _ h)
set_option maxHeartbeats 4000000 in
set_option maxRecDepth 100000 in
theorem sr_X11_aliases {T : AT} {o : Nat} {a0 : Int32} {a1 : Int32} {e1 : Nat} {r1 : Int32} {T1 : AT} (h : g_X11_aliases T o a0 a1 = some (e1, r1, T1)) : GR T T1 := by
  have p0 := GR.rf T
  unfold g_X11_aliases at h
  obtain ⟨g2, h⟩ := oif_some h
  rcases othr_s h with ⟨k9, r9, e9, -⟩ | ⟨r4, T3, eT3, h⟩
  · exact GR.tr p0 (gr_sp (s_X11_needCamera e9))
  have p1 : GR T T3 := GR.tr p0 (gr_sp (s_X11_needCamera eT3))
  rcases othr_s h with ⟨k9, r9, e9, -⟩ | ⟨r6, T5, eT5, h⟩
  · exact GR.tr p1 (gr_sp (s_X11_needRange e9))
  have p2 : GR T T5 := GR.tr p1 (gr_sp (s_X11_needRange eT5))
  rcases othr_s h with ⟨k9, r9, e9, -⟩ | ⟨r8, T7, eT7, h⟩
  · exact GR.tr p2 (gr_sp (s_X11_needRange e9))
  have p3 : GR T T7 := GR.tr p2 (gr_sp (s_X11_needRange eT7))
  obtain ⟨g9, h⟩ := oif_some h
  obtain ⟨r11, T10, eT10, h⟩ := obind2_some h
  obtain ⟨g12, h⟩ := oif_some h
  have p4 : GR T T10 := GR.tr p3 (sr_X11_powersNow eT10)
  exact GR.tr p4 (sr_X11_aliases_b22 _ _ _ _ _ h)
set_option maxHeartbeats 4000000 in
set_option maxRecDepth 100000 in
theorem sr_X11_blockPower_b58 {e1 : Nat} {r1 : Int64} {T1 : AT} : ∀ (T : AT) (l0 : Nat), g_X11_blockPower_b58 T l0 = some (e1, r1, T1) → GR T T1 := by
  intro T l0 h
  have p0 := GR.rf T
  unfold g_X11_blockPower_b58 at h
  obtain ⟨g2, h⟩ := oif_some h
  obtain ⟨n3, en3, h⟩ := obind_some h
  obtain ⟨g4, h⟩ := oif_some h
  obtain ⟨r6, T5, eT5, h⟩ := obind2_some h
  have p1 : GR T T5 := GR.tr p0 (gr_sp (s_X10_value eT5))
  rw [← (osome3 h).2.2]
  exact p1
set_option maxHeartbeats 4000000 in
set_option maxRecDepth 100000 in
theorem sr_X11_blockPower {T : AT} {o : Nat} {a0 : Int32} {a1 : Int32} {a2 : Int32} {e1 : Nat} {r1 : Int64} {T1 : AT} (h : g_X11_blockPower T o a0 a1 a2 = some (e1, r1, T1)) : GR T T1 := by
  have p0 := GR.rf T
  unfold g_X11_blockPower at h
  obtain ⟨g2, h⟩ := oif_some h
  rcases othr_s h with ⟨k9, r9, e9, -⟩ | ⟨r4, T3, eT3, h⟩
  · exact GR.tr p0 (gr_sp (s_X11_needCamera e9))
  have p1 : GR T T3 := GR.tr p0 (gr_sp (s_X11_needCamera eT3))
  obtain ⟨g5, h⟩ := oif_some h
  rcases othr_s h with ⟨k9, r9, e9, -⟩ | ⟨r7, T6, eT6, h⟩
  · exact GR.tr p1 (gr_sp (s_X11_needCell e9))
  have p2 : GR T T6 := GR.tr p1 (gr_sp (s_X11_needCell eT6))
  obtain ⟨g8, h⟩ := oif_some h
  obtain ⟨n9, en9, h⟩ := obind_some h
  obtain ⟨g10, h⟩ := oif_some h
  obtain ⟨v11, -, h⟩ := elet_some h
  obtain ⟨v12, -, h⟩ := elet_some h
  rcases othr_s h with ⟨k9, r9, e9, -⟩ | ⟨r14, T13, eT13, h⟩
  · exact GR.tr p2 (gr_sp (s_X11_needRange e9))
  have p3 : GR T T13 := GR.tr p2 (gr_sp (s_X11_needRange eT13))
  obtain ⟨g15, h⟩ := oif_some h
  obtain ⟨n16, en16, h⟩ := obind_some h
  obtain ⟨g17, h⟩ := oif_some h
  obtain ⟨v18, -, h⟩ := elet_some h
  rcases othr_s h with ⟨k9, r9, e9, -⟩ | ⟨r20, T19, eT19, h⟩
  · exact GR.tr p3 (gr_sp (s_X11_needRange e9))
  have p4 : GR T T19 := GR.tr p3 (gr_sp (s_X11_needRange eT19))
  obtain ⟨g21, h⟩ := oif_some h
  obtain ⟨n22, en22, h⟩ := obind_some h
  obtain ⟨g23, h⟩ := oif_some h
  obtain ⟨n24, en24, h⟩ := obind_some h
  obtain ⟨g25, h⟩ := oif_some h
  obtain ⟨n26, en26, h⟩ := obind_some h
  obtain ⟨g27, h⟩ := oif_some h
  obtain ⟨g28, h⟩ := oif_some h
  obtain ⟨n29, en29, h⟩ := obind_some h
  obtain ⟨g30, h⟩ := oif_some h
  obtain ⟨n31, en31, h⟩ := obind_some h
  obtain ⟨g32, h⟩ := oif_some h
  obtain ⟨T33, eT33, h⟩ := obind_some h
  have p5 : GR T T33 := GR.tr p4 (sr_X8_blockPowerOf eT33)
  exact GR.tr p5 (sr_X11_blockPower_b58 _ _ h)
set_option maxHeartbeats 4000000 in
set_option maxRecDepth 100000 in
theorem sr_X11_blockBest_b47 {e1 : Nat} {r1 : Int32} {T1 : AT} : ∀ (T : AT) (s0 : Int32), g_X11_blockBest_b47 T s0 = some (e1, r1, T1) → GR T T1 := by
  intro T s0 h
  have p0 := GR.rf T
  unfold g_X11_blockBest_b47 at h
  rw [← (osome3 h).2.2]
  exact p0
set_option maxHeartbeats 4000000 in
set_option maxRecDepth 100000 in
theorem sr_X11_blockBest {T : AT} {o : Nat} {a0 : Int32} {a1 : Int32} {e1 : Nat} {r1 : Int32} {T1 : AT} (h : g_X11_blockBest T o a0 a1 = some (e1, r1, T1)) : GR T T1 := by
  have p0 := GR.rf T
  unfold g_X11_blockBest at h
  obtain ⟨g2, h⟩ := oif_some h
  rcases othr_s h with ⟨k9, r9, e9, -⟩ | ⟨r4, T3, eT3, h⟩
  · exact GR.tr p0 (gr_sp (s_X11_needCamera e9))
  have p1 : GR T T3 := GR.tr p0 (gr_sp (s_X11_needCamera eT3))
  obtain ⟨g5, h⟩ := oif_some h
  obtain ⟨n6, en6, h⟩ := obind_some h
  obtain ⟨g7, h⟩ := oif_some h
  obtain ⟨v8, -, h⟩ := elet_some h
  obtain ⟨v9, -, h⟩ := elet_some h
  rcases othr_s h with ⟨k9, r9, e9, -⟩ | ⟨r11, T10, eT10, h⟩
  · exact GR.tr p1 (gr_sp (s_X11_needRange e9))
  have p2 : GR T T10 := GR.tr p1 (gr_sp (s_X11_needRange eT10))
  obtain ⟨g12, h⟩ := oif_some h
  obtain ⟨n13, en13, h⟩ := obind_some h
  obtain ⟨g14, h⟩ := oif_some h
  obtain ⟨v15, -, h⟩ := elet_some h
  rcases othr_s h with ⟨k9, r9, e9, -⟩ | ⟨r17, T16, eT16, h⟩
  · exact GR.tr p2 (gr_sp (s_X11_needRange e9))
  have p3 : GR T T16 := GR.tr p2 (gr_sp (s_X11_needRange eT16))
  obtain ⟨g18, h⟩ := oif_some h
  obtain ⟨n19, en19, h⟩ := obind_some h
  obtain ⟨g20, h⟩ := oif_some h
  obtain ⟨n21, en21, h⟩ := obind_some h
  obtain ⟨g22, h⟩ := oif_some h
  obtain ⟨n23, en23, h⟩ := obind_some h
  obtain ⟨g24, h⟩ := oif_some h
  obtain ⟨r26, T25, eT25, h⟩ := obind2_some h
  have p4 : GR T T25 := GR.tr p3 (sr_X0_bestOf eT25)
  exact GR.tr p4 (sr_X11_blockBest_b47 _ _ h)
set_option maxHeartbeats 4000000 in
set_option maxRecDepth 100000 in
theorem sr_X11_path_b85 {e1 : Nat} {r1 : Int32} {T1 : AT} {k39 : AT → Nat → Int32 → Int32 → Int32 → Int32 → Option (Nat × Int32 × AT)} (hk39 : ∀ (T : AT) (l0 : Nat) (l1 : Int32) (l2 : Int32) (l3 : Int32) (l4 : Int32), k39 T l0 l1 l2 l3 l4 = some (e1, r1, T1) → GR T T1) : ∀ (T : AT) (s0 : Int32) (s1 : Int32) (l0 : Nat) (l1 : Int32) (l4 : Int32) (l5 : Int32), g_X11_path_b85 k39 T s0 s1 l0 l1 l4 l5 = some (e1, r1, T1) → GR T T1 := by
  intro T s0 s1 l0 l1 l4 l5 h
  have p0 := GR.rf T
  unfold g_X11_path_b85 at h
  obtain ⟨v2, -, h⟩ := elet_some h
  obtain ⟨v3, -, h⟩ := elet_some h
  obtain ⟨v4, -, h⟩ := elet_some h
  exact GR.tr p0 (hk39 _ _ _ _ _ _ h)
set_option maxHeartbeats 4000000 in
set_option maxRecDepth 100000 in
theorem sr_X11_path_b71 {e1 : Nat} {r1 : Int32} {T1 : AT} {k39 : AT → Nat → Int32 → Int32 → Int32 → Int32 → Option (Nat × Int32 × AT)} (hk39 : ∀ (T : AT) (l0 : Nat) (l1 : Int32) (l2 : Int32) (l3 : Int32) (l4 : Int32), k39 T l0 l1 l2 l3 l4 = some (e1, r1, T1) → GR T T1) : ∀ (T : AT) (s0 : Int32) (l0 : Nat) (l1 : Int32) (l2 : Int32) (l3 : Int32) (l4 : Int32), g_X11_path_b71 k39 T s0 l0 l1 l2 l3 l4 = some (e1, r1, T1) → GR T T1 := by
  intro T s0 l0 l1 l2 l3 l4 h
  have p0 := GR.rf T
  unfold g_X11_path_b71 at h
  rcases oif_or h with ⟨c2, h⟩ | ⟨c2, h⟩
  · have h := h
    exact GR.tr p0 (sr_X11_path_b85 hk39 _ _ _ _ _ _ _ h)
  · have h := h
    exact GR.tr p0 (sr_X11_path_b85 hk39 _ _ _ _ _ _ _ h)
set_option maxHeartbeats 4000000 in
set_option maxRecDepth 100000 in
theorem sr_X11_path_b39 {e1 : Nat} {r1 : Int32} {T1 : AT} : ∀ n : Nat, ∀ (T : AT) (l0 : Nat) (l1 : Int32) (l2 : Int32) (l3 : Int32) (l4 : Int32), g_X11_path_b39 n T l0 l1 l2 l3 l4 = some (e1, r1, T1) → GR T T1 := by
  intro n
  induction n with
  | zero =>
    intro T l0 l1 l2 l3 l4 h
    have h : (none : Option (Nat × Int32 × AT)) = some (e1, r1, T1) := h
    cases h
  | succ n ih =>
    intro T l0 l1 l2 l3 l4 h
    have p0 := GR.rf T
    unfold g_X11_path_b39 at h
    obtain ⟨v2, -, h⟩ := elet_some h
    obtain ⟨g3, h⟩ := oif_some h
    obtain ⟨n4, en4, h⟩ := obind_some h
    obtain ⟨g5, h⟩ := oif_some h
    obtain ⟨v6, -, h⟩ := elet_some h
    rcases oif_or h with ⟨c7, h⟩ | ⟨c7, h⟩
    · have h := h
      rw [← (osome3 h).2.2]
      exact p0
    · have h := h
      obtain ⟨g8, h⟩ := oif_some h
      obtain ⟨n9, en9, h⟩ := obind_some h
      obtain ⟨g10, h⟩ := oif_some h
      obtain ⟨n11, en11, h⟩ := obind_some h
      obtain ⟨g12, h⟩ := oif_some h
      obtain ⟨n13, en13, h⟩ := obind_some h
      obtain ⟨g14, h⟩ := oif_some h
      obtain ⟨r16, T15, eT15, h⟩ := obind2_some h
      have p1 : GR T T15 := GR.tr p0 (sr_X0_bestOf eT15)
      exact GR.tr p1 (sr_X11_path_b71 ih _ _ _ _ _ _ _ h)
set_option maxHeartbeats 4000000 in
set_option maxRecDepth 100000 in
theorem sr_X11_path_b35 {e1 : Nat} {r1 : Int32} {T1 : AT} : ∀ (T : AT) (s0 : Int32) (l0 : Nat) (l1 : Int32) (l2 : Int32), g_X11_path_b35 T s0 l0 l1 l2 = some (e1, r1, T1) → GR T T1 := by
  intro T s0 l0 l1 l2 h
  have p0 := GR.rf T
  unfold g_X11_path_b35 at h
  exact GR.tr p0 (sr_X11_path_b39 _ _ _ _ _ _ _ h)
set_option maxHeartbeats 4000000 in
set_option maxRecDepth 100000 in
theorem sr_X11_path {T : AT} {o : Nat} {a0 : Int32} {e1 : Nat} {r1 : Int32} {T1 : AT} (h : g_X11_path T o a0 = some (e1, r1, T1)) : GR T T1 := by
  have p0 := GR.rf T
  unfold g_X11_path at h
  obtain ⟨g2, h⟩ := oif_some h
  rcases othr_s h with ⟨k9, r9, e9, -⟩ | ⟨r4, T3, eT3, h⟩
  · exact GR.tr p0 (gr_sp (s_X11_needCamera e9))
  have p1 : GR T T3 := GR.tr p0 (gr_sp (s_X11_needCamera eT3))
  obtain ⟨g5, h⟩ := oif_some h
  obtain ⟨n6, en6, h⟩ := obind_some h
  obtain ⟨g7, h⟩ := oif_some h
  obtain ⟨v8, -, h⟩ := elet_some h
  rcases othr_s h with ⟨k9, r9, e9, -⟩ | ⟨r10, T9, eT9, h⟩
  · exact GR.tr p1 (gr_sp (s_X11_needRange e9))
  have p2 : GR T T9 := GR.tr p1 (gr_sp (s_X11_needRange eT9))
  obtain ⟨g11, h⟩ := oif_some h
  obtain ⟨n12, en12, h⟩ := obind_some h
  obtain ⟨g13, h⟩ := oif_some h
  obtain ⟨n14, en14, h⟩ := obind_some h
  obtain ⟨g15, h⟩ := oif_some h
  obtain ⟨n16, en16, h⟩ := obind_some h
  obtain ⟨g17, h⟩ := oif_some h
  obtain ⟨r19, T18, eT18, h⟩ := obind2_some h
  have p3 : GR T T18 := GR.tr p2 (sr_X0_bestOf eT18)
  exact GR.tr p3 (sr_X11_path_b35 _ _ _ _ _ h)
set_option maxHeartbeats 4000000 in
set_option maxRecDepth 100000 in
theorem sr_X11_trackScore_b32 {e1 : Nat} {r1 : Int64} {T1 : AT} : ∀ (T : AT) (l0 : Nat), g_X11_trackScore_b32 T l0 = some (e1, r1, T1) → GR T T1 := by
  intro T l0 h
  have p0 := GR.rf T
  unfold g_X11_trackScore_b32 at h
  obtain ⟨g2, h⟩ := oif_some h
  obtain ⟨n3, en3, h⟩ := obind_some h
  obtain ⟨g4, h⟩ := oif_some h
  obtain ⟨n5, en5, h⟩ := obind_some h
  obtain ⟨g6, h⟩ := oif_some h
  obtain ⟨n7, en7, h⟩ := obind_some h
  obtain ⟨g8, h⟩ := oif_some h
  obtain ⟨n9, en9, h⟩ := obind_some h
  obtain ⟨g10, h⟩ := oif_some h
  obtain ⟨n11, en11, h⟩ := obind_some h
  obtain ⟨g12, h⟩ := oif_some h
  obtain ⟨r14, T13, eT13, h⟩ := obind2_some h
  have p1 : GR T T13 := GR.tr p0 (gr_sp (s_X0_trackCellIn eT13))
  obtain ⟨g15, h⟩ := oif_some h
  obtain ⟨r17, T16, eT16, h⟩ := obind2_some h
  have p2 : GR T T16 := GR.tr p1 (gr_sp (s_X10_value eT16))
  rw [← (osome3 h).2.2]
  exact p2
set_option maxHeartbeats 4000000 in
set_option maxRecDepth 100000 in
theorem sr_X11_trackScore {T : AT} {o : Nat} {a0 : Int32} {e1 : Nat} {r1 : Int64} {T1 : AT} (h : g_X11_trackScore T o a0 = some (e1, r1, T1)) : GR T T1 := by
  have p0 := GR.rf T
  unfold g_X11_trackScore at h
  obtain ⟨g2, h⟩ := oif_some h
  rcases othr_s h with ⟨k9, r9, e9, -⟩ | ⟨r4, T3, eT3, h⟩
  · exact GR.tr p0 (gr_sp (s_X11_needCamera e9))
  have p1 : GR T T3 := GR.tr p0 (gr_sp (s_X11_needCamera eT3))
  obtain ⟨g5, h⟩ := oif_some h
  obtain ⟨n6, en6, h⟩ := obind_some h
  obtain ⟨g7, h⟩ := oif_some h
  obtain ⟨v8, -, h⟩ := elet_some h
  rcases othr_s h with ⟨k9, r9, e9, -⟩ | ⟨r10, T9, eT9, h⟩
  · exact GR.tr p1 (gr_sp (s_X11_needRange e9))
  have p2 : GR T T9 := GR.tr p1 (gr_sp (s_X11_needRange eT9))
  obtain ⟨g11, h⟩ := oif_some h
  obtain ⟨n12, en12, h⟩ := obind_some h
  obtain ⟨g13, h⟩ := oif_some h
  obtain ⟨n14, en14, h⟩ := obind_some h
  obtain ⟨g15, h⟩ := oif_some h
  obtain ⟨n16, en16, h⟩ := obind_some h
  obtain ⟨g17, h⟩ := oif_some h
  obtain ⟨T18, eT18, h⟩ := obind_some h
  have p3 : GR T T18 := GR.tr p2 (sr_X0_score eT18)
  exact GR.tr p3 (sr_X11_trackScore_b32 _ _ h)
set_option maxHeartbeats 4000000 in
set_option maxRecDepth 100000 in
theorem sr_X11_trackCell_b76 {e1 : Nat} {r1 : Int32} {T1 : AT} : ∀ (T : AT) (l0 : Nat) (l2 : Int32), g_X11_trackCell_b76 T l0 l2 = some (e1, r1, T1) → GR T T1 := by
  intro T l0 l2 h
  have p0 := GR.rf T
  unfold g_X11_trackCell_b76 at h
  obtain ⟨g2, h⟩ := oif_some h
  obtain ⟨n3, en3, h⟩ := obind_some h
  obtain ⟨g4, h⟩ := oif_some h
  obtain ⟨n5, en5, h⟩ := obind_some h
  obtain ⟨g6, h⟩ := oif_some h
  obtain ⟨n7, en7, h⟩ := obind_some h
  obtain ⟨g8, h⟩ := oif_some h
  obtain ⟨r10, T9, eT9, h⟩ := obind2_some h
  have p1 : GR T T9 := GR.tr p0 (gr_sp (s_X0_trackCellIn eT9))
  rw [← (osome3 h).2.2]
  exact p1
set_option maxHeartbeats 4000000 in
set_option maxRecDepth 100000 in
theorem sr_X11_trackCell_b48 {e1 : Nat} {r1 : Int32} {T1 : AT} : ∀ (T : AT) (l0 : Nat) (l1 : Int32) (l2 : Int32), g_X11_trackCell_b48 T l0 l1 l2 = some (e1, r1, T1) → GR T T1 := by
  intro T l0 l1 l2 h
  have p0 := GR.rf T
  unfold g_X11_trackCell_b48 at h
  obtain ⟨g2, h⟩ := oif_some h
  obtain ⟨n3, en3, h⟩ := obind_some h
  obtain ⟨g4, h⟩ := oif_some h
  obtain ⟨v5, -, h⟩ := elet_some h
  rcases othr_s h with ⟨k9, r9, e9, -⟩ | ⟨r7, T6, eT6, h⟩
  · exact GR.tr p0 (gr_sp (s_X11_needRange e9))
  have p1 : GR T T6 := GR.tr p0 (gr_sp (s_X11_needRange eT6))
  obtain ⟨g8, h⟩ := oif_some h
  obtain ⟨n9, en9, h⟩ := obind_some h
  obtain ⟨g10, h⟩ := oif_some h
  obtain ⟨n11, en11, h⟩ := obind_some h
  obtain ⟨g12, h⟩ := oif_some h
  obtain ⟨n13, en13, h⟩ := obind_some h
  obtain ⟨g14, h⟩ := oif_some h
  obtain ⟨T15, eT15, h⟩ := obind_some h
  have p2 : GR T T15 := GR.tr p1 (sr_X0_score eT15)
  exact GR.tr p2 (sr_X11_trackCell_b76 _ _ _ h)
set_option maxHeartbeats 4000000 in
set_option maxRecDepth 100000 in
theorem sr_X11_trackCell_b25 {e1 : Nat} {r1 : Int32} {T1 : AT} : ∀ (T : AT) (s0 : Int32) (l0 : Nat) (l1 : Int32) (l2 : Int32), g_X11_trackCell_b25 T s0 l0 l1 l2 = some (e1, r1, T1) → GR T T1 := by
  intro T s0 l0 l1 l2 h
  have p0 := GR.rf T
  unfold g_X11_trackCell_b25 at h
  rcases oif_or h with ⟨c2, h⟩ | ⟨c2, h⟩
  · have h := h
    exact GR.tr p0 (sr_X11_trackCell_b48 _ _ _ _ h)
  · have h := h
    obtain ⟨g3, h⟩ := oif_some h
    obtain ⟨n4, en4, h⟩ := obind_some h
    obtain ⟨g5, h⟩ := oif_some h
    obtain ⟨v6, -, h⟩ := elet_some h
    obtain ⟨v7, -, h⟩ := elet_some h
    obtain ⟨v8, -, h⟩ := elet_some h
    obtain ⟨r9, -, h⟩ := obind_some h
    obtain ⟨v10, -, h⟩ := elet_some h
    rcases othr_s h with ⟨k9, r9, e9, -⟩ | ⟨r12, T11, eT11, h⟩
    · exact GR.tr p0 (gr_sp (s_X11_needIndex e9))
    have p1 : GR T T11 := GR.tr p0 (gr_sp (s_X11_needIndex eT11))
    exact GR.tr p1 (sr_X11_trackCell_b48 _ _ _ _ h)
set_option maxHeartbeats 4000000 in
set_option maxRecDepth 100000 in
theorem sr_X11_trackCell_b24 {e1 : Nat} {r1 : Int32} {T1 : AT} : ∀ (T : AT) (l0 : Nat) (l1 : Int32) (l2 : Int32), g_X11_trackCell_b24 T l0 l1 l2 = some (e1, r1, T1) → GR T T1 := by
  intro T l0 l1 l2 h
  have p0 := GR.rf T
  unfold g_X11_trackCell_b24 at h
  exact GR.tr p0 (sr_X11_trackCell_b25 _ _ _ _ _ h)
set_option maxHeartbeats 4000000 in
set_option maxRecDepth 100000 in
theorem sr_X11_trackCell {T : AT} {o : Nat} {a0 : Int32} {a1 : Int32} {e1 : Nat} {r1 : Int32} {T1 : AT} (h : g_X11_trackCell T o a0 a1 = some (e1, r1, T1)) : GR T T1 := by
  have p0 := GR.rf T
  unfold g_X11_trackCell at h
  obtain ⟨g2, h⟩ := oif_some h
  rcases othr_s h with ⟨k9, r9, e9, -⟩ | ⟨r4, T3, eT3, h⟩
  · exact GR.tr p0 (gr_sp (s_X11_needCamera e9))
  have p1 : GR T T3 := GR.tr p0 (gr_sp (s_X11_needCamera eT3))
  rcases oif_or h with ⟨c5, h⟩ | ⟨c5, h⟩
  · have h := h
    exact GR.tr p1 (sr_X11_trackCell_b24 _ _ _ _ h)
  · have h := h
    obtain ⟨g6, h⟩ := oif_some h
    obtain ⟨n7, en7, h⟩ := obind_some h
    obtain ⟨g8, h⟩ := oif_some h
    obtain ⟨v9, -, h⟩ := elet_some h
    rcases oif_or h with ⟨c10, h⟩ | ⟨c10, h⟩
    · have h := h
      exact GR.tr p1 (sr_X11_trackCell_b24 _ _ _ _ h)
    · have h := h
      exact GR.tr p1 (sr_X11_trackCell_b25 _ _ _ _ _ h)
set_option maxHeartbeats 4000000 in
set_option maxRecDepth 100000 in
theorem sr_X11_powerOnTheMove_b137 {T1 : AT} : ∀ (T : AT), g_X11_powerOnTheMove_b137 T = some T1 → GR T T1 := by
  intro T h
  have p0 := GR.rf T
  unfold g_X11_powerOnTheMove_b137 at h
  rw [← osome1 h]
  exact p0
set_option maxHeartbeats 4000000 in
set_option maxRecDepth 100000 in
theorem sr_X11_powerOnTheMove_b115 {T1 : AT} {k38 : AT → Nat → Int32 → Int32 → Int32 → Int32 → Int32 → Int32 → Option (AT)} (hk38 : ∀ (T : AT) (l0 : Nat) (l2 : Int32) (l3 : Int32) (l4 : Int32) (l5 : Int32) (l6 : Int32) (l7 : Int32), k38 T l0 l2 l3 l4 l5 l6 l7 = some T1 → GR T T1) : ∀ (T : AT) (l0 : Nat) (l2 : Int32) (l3 : Int32) (l4 : Int32) (l5 : Int32) (l6 : Int32) (l7 : Int32), g_X11_powerOnTheMove_b115 k38 T l0 l2 l3 l4 l5 l6 l7 = some T1 → GR T T1 := by
  intro T l0 l2 l3 l4 l5 l6 l7 h
  have p0 := GR.rf T
  unfold g_X11_powerOnTheMove_b115 at h
  obtain ⟨v2, ev2, h⟩ := elet_some h
  exact GR.tr p0 (hk38 _ _ _ _ _ _ _ _ h)
set_option maxHeartbeats 4000000 in
set_option maxRecDepth 100000 in
theorem sr_X11_powerOnTheMove_b90 {T1 : AT} {k38 : AT → Nat → Int32 → Int32 → Int32 → Int32 → Int32 → Int32 → Option (AT)} (hk38 : ∀ (T : AT) (l0 : Nat) (l2 : Int32) (l3 : Int32) (l4 : Int32) (l5 : Int32) (l6 : Int32) (l7 : Int32), k38 T l0 l2 l3 l4 l5 l6 l7 = some T1 → GR T T1) : ∀ (T : AT) (l0 : Nat) (l2 : Int32) (l3 : Int32) (l4 : Int32) (l5 : Int32) (l6 : Int32) (l7 : Int32), g_X11_powerOnTheMove_b90 k38 T l0 l2 l3 l4 l5 l6 l7 = some T1 → GR T T1 := by
  intro T l0 l2 l3 l4 l5 l6 l7 h
  have p0 := GR.rf T
  unfold g_X11_powerOnTheMove_b90 at h
  obtain ⟨g2, h⟩ := oif_some h
  obtain ⟨n3, en3, h⟩ := obind_some h
  obtain ⟨g4, h⟩ := oif_some h
  obtain ⟨n5, en5, h⟩ := obind_some h
  obtain ⟨g6, h⟩ := oif_some h
  obtain ⟨n7, en7, h⟩ := obind_some h
  obtain ⟨g8, h⟩ := oif_some h
  obtain ⟨n9, en9, h⟩ := obind_some h
  obtain ⟨g10, h⟩ := oif_some h
  obtain ⟨n11, en11, h⟩ := obind_some h
  obtain ⟨g12, h⟩ := oif_some h
  obtain ⟨T13, eT13, h⟩ := obind_some h
  have p1 : GR T T13 := GR.tr p0 (sr_X10_addProduct eT13)
  exact GR.tr p1 (sr_X11_powerOnTheMove_b115 hk38 _ _ _ _ _ _ _ _ h)
set_option maxHeartbeats 4000000 in
set_option maxRecDepth 100000 in
theorem sr_X11_powerOnTheMove_b38 {T1 : AT} : ∀ n : Nat, ∀ (T : AT) (l0 : Nat) (l2 : Int32) (l3 : Int32) (l4 : Int32) (l5 : Int32) (l6 : Int32) (l7 : Int32), g_X11_powerOnTheMove_b38 n T l0 l2 l3 l4 l5 l6 l7 = some T1 → GR T T1 := by
  intro n
  induction n with
  | zero =>
    intro T l0 l2 l3 l4 l5 l6 l7 h
    have h : (none : Option (AT)) = some T1 := h
    cases h
  | succ n ih =>
    intro T l0 l2 l3 l4 l5 l6 l7 h
    have p0 := GR.rf T
    unfold g_X11_powerOnTheMove_b38 at h
    obtain ⟨g2, h⟩ := oif_some h
    obtain ⟨n3, en3, h⟩ := obind_some h
    obtain ⟨g4, h⟩ := oif_some h
    obtain ⟨v5, -, h⟩ := elet_some h
    rcases oif_or h with ⟨c6, h⟩ | ⟨c6, h⟩
    · have h := h
      obtain ⟨g7, h⟩ := oif_some h
      obtain ⟨n8, en8, h⟩ := obind_some h
      obtain ⟨g9, h⟩ := oif_some h
      obtain ⟨n10, en10, h⟩ := obind_some h
      obtain ⟨g11, h⟩ := oif_some h
      obtain ⟨v12, -, h⟩ := elet_some h
      obtain ⟨g13, h⟩ := oif_some h
      obtain ⟨T14, eT14, h⟩ := obind_some h
      have p1 : GR T T14 := GR.tr p0 (sr_X10_divide eT14)
      exact GR.tr p1 (sr_X11_powerOnTheMove_b137 _ h)
    · have h := h
      obtain ⟨g16, h⟩ := oif_some h
      obtain ⟨n17, en17, h⟩ := obind_some h
      obtain ⟨r18, -, h⟩ := obind_some h
      obtain ⟨r19, -, h⟩ := obind_some h
      obtain ⟨g20, h⟩ := oif_some h
      obtain ⟨n21, en21, h⟩ := obind_some h
      obtain ⟨g22, h⟩ := oif_some h
      obtain ⟨T23, eT23, h⟩ := obind_some h
      have p1 : GR T T23 := GR.tr p0 (gr_sp (s_X6_delaysFrom eT23))
      obtain ⟨g25, h⟩ := oif_some h
      obtain ⟨n26, en26, h⟩ := obind_some h
      obtain ⟨g27, h⟩ := oif_some h
      obtain ⟨n28, en28, h⟩ := obind_some h
      obtain ⟨g29, h⟩ := oif_some h
      obtain ⟨T30, eT30, h⟩ := obind_some h
      have p2 : GR T T30 := GR.tr p1 (sr_X8_focus eT30)
      exact GR.tr p2 (sr_X11_powerOnTheMove_b90 ih _ _ _ _ _ _ _ _ h)
set_option maxHeartbeats 4000000 in
set_option maxRecDepth 100000 in
theorem sr_X11_powerOnTheMove {T : AT} {o : Nat} {a0 : Int32} {a1 : Int32} {a2 : Int32} {a3 : Int32} {T1 : AT} (h : g_X11_powerOnTheMove T o a0 a1 a2 a3 = some T1) : GR T T1 := by
  have p0 := GR.rf T
  unfold g_X11_powerOnTheMove at h
  obtain ⟨g2, h⟩ := oif_some h
  obtain ⟨n3, en3, h⟩ := obind_some h
  obtain ⟨g4, h⟩ := oif_some h
  obtain ⟨n5, en5, h⟩ := obind_some h
  obtain ⟨g6, h⟩ := oif_some h
  obtain ⟨r8, T7, eT7, h⟩ := obind2_some h
  have p1 : GR T T7 := GR.tr p0 (gr_sp (s_X1_centreX eT7))
  obtain ⟨g9, h⟩ := oif_some h
  obtain ⟨n10, en10, h⟩ := obind_some h
  obtain ⟨g11, h⟩ := oif_some h
  obtain ⟨n12, en12, h⟩ := obind_some h
  obtain ⟨g13, h⟩ := oif_some h
  obtain ⟨r15, T14, eT14, h⟩ := obind2_some h
  have p2 : GR T T14 := GR.tr p1 (gr_sp (s_X1_centreY eT14))
  obtain ⟨g16, h⟩ := oif_some h
  obtain ⟨n17, en17, h⟩ := obind_some h
  obtain ⟨g18, h⟩ := oif_some h
  obtain ⟨T19, eT19, h⟩ := obind_some h
  have p3 : GR T T19 := GR.tr p2 (gr_sp (s_X10_clear eT19))
  exact GR.tr p3 (sr_X11_powerOnTheMove_b38 _ _ _ _ _ _ _ _ _ h)
set_option maxHeartbeats 4000000 in
set_option maxRecDepth 100000 in
theorem sr_X11_movingPower_b37 {e1 : Nat} {r1 : Int64} {T1 : AT} : ∀ (T : AT) (l0 : Nat), g_X11_movingPower_b37 T l0 = some (e1, r1, T1) → GR T T1 := by
  intro T l0 h
  have p0 := GR.rf T
  unfold g_X11_movingPower_b37 at h
  obtain ⟨g2, h⟩ := oif_some h
  obtain ⟨n3, en3, h⟩ := obind_some h
  obtain ⟨g4, h⟩ := oif_some h
  obtain ⟨r6, T5, eT5, h⟩ := obind2_some h
  have p1 : GR T T5 := GR.tr p0 (gr_sp (s_X10_value eT5))
  rw [← (osome3 h).2.2]
  exact p1
set_option maxHeartbeats 4000000 in
set_option maxRecDepth 100000 in
theorem sr_X11_movingPower {T : AT} {o : Nat} {a0 : Int32} {a1 : Int32} {a2 : Int32} {e1 : Nat} {r1 : Int64} {T1 : AT} (h : g_X11_movingPower T o a0 a1 a2 = some (e1, r1, T1)) : GR T T1 := by
  have p0 := GR.rf T
  unfold g_X11_movingPower at h
  obtain ⟨g2, h⟩ := oif_some h
  rcases othr_s h with ⟨k9, r9, e9, -⟩ | ⟨r4, T3, eT3, h⟩
  · exact GR.tr p0 (gr_sp (s_X11_needCamera e9))
  have p1 : GR T T3 := GR.tr p0 (gr_sp (s_X11_needCamera eT3))
  obtain ⟨g5, h⟩ := oif_some h
  rcases othr_s h with ⟨k9, r9, e9, -⟩ | ⟨r7, T6, eT6, h⟩
  · exact GR.tr p1 (gr_sp (s_X11_needCell e9))
  have p2 : GR T T6 := GR.tr p1 (gr_sp (s_X11_needCell eT6))
  rcases othr_s h with ⟨k9, r9, e9, -⟩ | ⟨r9, T8, eT8, h⟩
  · exact GR.tr p2 (gr_sp (s_X11_needRange e9))
  have p3 : GR T T8 := GR.tr p2 (gr_sp (s_X11_needRange eT8))
  rcases othr_s h with ⟨k9, r9, e9, -⟩ | ⟨r11, T10, eT10, h⟩
  · exact GR.tr p3 (gr_sp (s_X11_needRange e9))
  have p4 : GR T T10 := GR.tr p3 (gr_sp (s_X11_needRange eT10))
  obtain ⟨g12, h⟩ := oif_some h
  obtain ⟨T13, eT13, h⟩ := obind_some h
  have p5 : GR T T13 := GR.tr p4 (sr_X11_powerOnTheMove eT13)
  exact GR.tr p5 (sr_X11_movingPower_b37 _ _ h)
set_option maxHeartbeats 4000000 in
set_option maxRecDepth 100000 in
theorem sr_X11_bestVelocity_b104 {e1 : Nat} {r1 : Int32} {T1 : AT} {k29 : AT → Nat → Int32 → Int32 → Int32 → Int32 → Int32 → Option (Nat × Int32 × AT)} {k39 : AT → Nat → Int32 → Int32 → Int32 → Int32 → Int32 → Int32 → Option (Nat × Int32 × AT)} (hk29 : ∀ (T : AT) (l0 : Nat) (l1 : Int32) (l2 : Int32) (l3 : Int32) (l4 : Int32) (l5 : Int32), k29 T l0 l1 l2 l3 l4 l5 = some (e1, r1, T1) → GR T T1) (hk39 : ∀ (T : AT) (l0 : Nat) (l1 : Int32) (l2 : Int32) (l3 : Int32) (l4 : Int32) (l5 : Int32) (l6 : Int32), k39 T l0 l1 l2 l3 l4 l5 l6 = some (e1, r1, T1) → GR T T1) : ∀ (T : AT) (l0 : Nat) (l1 : Int32) (l2 : Int32) (l3 : Int32) (l4 : Int32) (l5 : Int32) (l6 : Int32), g_X11_bestVelocity_b104 k29 k39 T l0 l1 l2 l3 l4 l5 l6 = some (e1, r1, T1) → GR T T1 := by
  intro T l0 l1 l2 l3 l4 l5 l6 h
  have p0 := GR.rf T
  unfold g_X11_bestVelocity_b104 at h
  obtain ⟨v2, ev2, h⟩ := elet_some h
  exact GR.tr p0 (hk39 _ _ _ _ _ _ _ _ h)
set_option maxHeartbeats 4000000 in
set_option maxRecDepth 100000 in
theorem sr_X11_bestVelocity_b90 {e1 : Nat} {r1 : Int32} {T1 : AT} {k29 : AT → Nat → Int32 → Int32 → Int32 → Int32 → Int32 → Option (Nat × Int32 × AT)} {k39 : AT → Nat → Int32 → Int32 → Int32 → Int32 → Int32 → Int32 → Option (Nat × Int32 × AT)} (hk29 : ∀ (T : AT) (l0 : Nat) (l1 : Int32) (l2 : Int32) (l3 : Int32) (l4 : Int32) (l5 : Int32), k29 T l0 l1 l2 l3 l4 l5 = some (e1, r1, T1) → GR T T1) (hk39 : ∀ (T : AT) (l0 : Nat) (l1 : Int32) (l2 : Int32) (l3 : Int32) (l4 : Int32) (l5 : Int32) (l6 : Int32), k39 T l0 l1 l2 l3 l4 l5 l6 = some (e1, r1, T1) → GR T T1) : ∀ (T : AT) (l0 : Nat) (l1 : Int32) (l2 : Int32) (l3 : Int32) (l5 : Int32) (l6 : Int32), g_X11_bestVelocity_b90 k29 k39 T l0 l1 l2 l3 l5 l6 = some (e1, r1, T1) → GR T T1 := by
  intro T l0 l1 l2 l3 l5 l6 h
  have p0 := GR.rf T
  unfold g_X11_bestVelocity_b90 at h
  obtain ⟨v2, -, h⟩ := elet_some h
  obtain ⟨v3, -, h⟩ := elet_some h
  obtain ⟨v4, -, h⟩ := elet_some h
  obtain ⟨v5, -, h⟩ := elet_some h
  exact GR.tr p0 (sr_X11_bestVelocity_b104 hk29 hk39 _ _ _ _ _ _ _ _ h)
set_option maxHeartbeats 4000000 in
set_option maxRecDepth 100000 in
theorem sr_X11_bestVelocity_b77 {e1 : Nat} {r1 : Int32} {T1 : AT} {k29 : AT → Nat → Int32 → Int32 → Int32 → Int32 → Int32 → Option (Nat × Int32 × AT)} {k39 : AT → Nat → Int32 → Int32 → Int32 → Int32 → Int32 → Int32 → Option (Nat × Int32 × AT)} (hk29 : ∀ (T : AT) (l0 : Nat) (l1 : Int32) (l2 : Int32) (l3 : Int32) (l4 : Int32) (l5 : Int32), k29 T l0 l1 l2 l3 l4 l5 = some (e1, r1, T1) → GR T T1) (hk39 : ∀ (T : AT) (l0 : Nat) (l1 : Int32) (l2 : Int32) (l3 : Int32) (l4 : Int32) (l5 : Int32) (l6 : Int32), k39 T l0 l1 l2 l3 l4 l5 l6 = some (e1, r1, T1) → GR T T1) : ∀ (T : AT) (l0 : Nat) (l1 : Int32) (l2 : Int32) (l3 : Int32) (l5 : Int32) (l6 : Int32), g_X11_bestVelocity_b77 k29 k39 T l0 l1 l2 l3 l5 l6 = some (e1, r1, T1) → GR T T1 := by
  intro T l0 l1 l2 l3 l5 l6 h
  have p0 := GR.rf T
  unfold g_X11_bestVelocity_b77 at h
  obtain ⟨g2, h⟩ := oif_some h
  obtain ⟨n3, en3, h⟩ := obind_some h
  obtain ⟨g4, h⟩ := oif_some h
  obtain ⟨n5, en5, h⟩ := obind_some h
  obtain ⟨g6, h⟩ := oif_some h
  obtain ⟨T7, eT7, h⟩ := obind_some h
  have p1 : GR T T7 := GR.tr p0 (sr_X10_set eT7)
  exact GR.tr p1 (sr_X11_bestVelocity_b90 hk29 hk39 _ _ _ _ _ _ _ h)
set_option maxHeartbeats 4000000 in
set_option maxRecDepth 100000 in
theorem sr_X11_bestVelocity_b59 {e1 : Nat} {r1 : Int32} {T1 : AT} {k29 : AT → Nat → Int32 → Int32 → Int32 → Int32 → Int32 → Option (Nat × Int32 × AT)} {k39 : AT → Nat → Int32 → Int32 → Int32 → Int32 → Int32 → Int32 → Option (Nat × Int32 × AT)} (hk29 : ∀ (T : AT) (l0 : Nat) (l1 : Int32) (l2 : Int32) (l3 : Int32) (l4 : Int32) (l5 : Int32), k29 T l0 l1 l2 l3 l4 l5 = some (e1, r1, T1) → GR T T1) (hk39 : ∀ (T : AT) (l0 : Nat) (l1 : Int32) (l2 : Int32) (l3 : Int32) (l4 : Int32) (l5 : Int32) (l6 : Int32), k39 T l0 l1 l2 l3 l4 l5 l6 = some (e1, r1, T1) → GR T T1) : ∀ (T : AT) (l0 : Nat) (l1 : Int32) (l2 : Int32) (l3 : Int32) (l4 : Int32) (l5 : Int32) (l6 : Int32), g_X11_bestVelocity_b59 k29 k39 T l0 l1 l2 l3 l4 l5 l6 = some (e1, r1, T1) → GR T T1 := by
  intro T l0 l1 l2 l3 l4 l5 l6 h
  have p0 := GR.rf T
  unfold g_X11_bestVelocity_b59 at h
  rcases oif_or h with ⟨c2, h⟩ | ⟨c2, h⟩
  · have h := h
    exact GR.tr p0 (sr_X11_bestVelocity_b77 hk29 hk39 _ _ _ _ _ _ _ h)
  · have h := h
    obtain ⟨g3, h⟩ := oif_some h
    obtain ⟨n4, en4, h⟩ := obind_some h
    obtain ⟨g5, h⟩ := oif_some h
    obtain ⟨r7, T6, eT6, h⟩ := obind2_some h
    have p1 : GR T T6 := GR.tr p0 (gr_sp (s_X10_compare eT6))
    rcases oif_or h with ⟨c8, h⟩ | ⟨c8, h⟩
    · have h := h
      exact GR.tr p1 (sr_X11_bestVelocity_b104 hk29 hk39 _ _ _ _ _ _ _ _ h)
    · have h := h
      exact GR.tr p1 (sr_X11_bestVelocity_b77 hk29 hk39 _ _ _ _ _ _ _ h)
set_option maxHeartbeats 4000000 in
set_option maxRecDepth 100000 in
theorem sr_X11_bestVelocity_b39 {e1 : Nat} {r1 : Int32} {T1 : AT} {k29 : AT → Nat → Int32 → Int32 → Int32 → Int32 → Int32 → Option (Nat × Int32 × AT)} (hk29 : ∀ (T : AT) (l0 : Nat) (l1 : Int32) (l2 : Int32) (l3 : Int32) (l4 : Int32) (l5 : Int32), k29 T l0 l1 l2 l3 l4 l5 = some (e1, r1, T1) → GR T T1) : ∀ n : Nat, ∀ (T : AT) (l0 : Nat) (l1 : Int32) (l2 : Int32) (l3 : Int32) (l4 : Int32) (l5 : Int32) (l6 : Int32), g_X11_bestVelocity_b39 k29 n T l0 l1 l2 l3 l4 l5 l6 = some (e1, r1, T1) → GR T T1 := by
  intro n
  induction n with
  | zero =>
    intro T l0 l1 l2 l3 l4 l5 l6 h
    have h : (none : Option (Nat × Int32 × AT)) = some (e1, r1, T1) := h
    cases h
  | succ n ih =>
    intro T l0 l1 l2 l3 l4 l5 l6 h
    have p0 := GR.rf T
    unfold g_X11_bestVelocity_b39 at h
    rcases oif_or h with ⟨c2, h⟩ | ⟨c2, h⟩
    · have h := h
      obtain ⟨v3, ev3, h⟩ := elet_some h
      exact GR.tr p0 (hk29 _ _ _ _ _ _ _ h)
    · have h := h
      obtain ⟨v4, -, h⟩ := elet_some h
      obtain ⟨v5, -, h⟩ := elet_some h
      obtain ⟨g6, h⟩ := oif_some h
      obtain ⟨T7, eT7, h⟩ := obind_some h
      have p1 : GR T T7 := GR.tr p0 (sr_X11_powerOnTheMove eT7)
      exact GR.tr p1 (sr_X11_bestVelocity_b59 hk29 ih _ _ _ _ _ _ _ _ h)
set_option maxHeartbeats 4000000 in
set_option maxRecDepth 100000 in
theorem sr_X11_bestVelocity_b29 {e1 : Nat} {r1 : Int32} {T1 : AT} : ∀ n : Nat, ∀ (T : AT) (l0 : Nat) (l1 : Int32) (l2 : Int32) (l3 : Int32) (l4 : Int32) (l5 : Int32), g_X11_bestVelocity_b29 n T l0 l1 l2 l3 l4 l5 = some (e1, r1, T1) → GR T T1 := by
  intro n
  induction n with
  | zero =>
    intro T l0 l1 l2 l3 l4 l5 h
    have h : (none : Option (Nat × Int32 × AT)) = some (e1, r1, T1) := h
    cases h
  | succ n ih =>
    intro T l0 l1 l2 l3 l4 l5 h
    have p0 := GR.rf T
    unfold g_X11_bestVelocity_b29 at h
    rcases oif_or h with ⟨c2, h⟩ | ⟨c2, h⟩
    · have h := h
      rw [← (osome3 h).2.2]
      exact p0
    · have h := h
      obtain ⟨v3, -, h⟩ := elet_some h
      exact GR.tr p0 (sr_X11_bestVelocity_b39 ih _ _ _ _ _ _ _ _ _ h)
set_option maxHeartbeats 4000000 in
set_option maxRecDepth 100000 in
theorem sr_X11_bestVelocity {T : AT} {o : Nat} {a0 : Int32} {a1 : Int32} {a2 : Int32} {e1 : Nat} {r1 : Int32} {T1 : AT} (h : g_X11_bestVelocity T o a0 a1 a2 = some (e1, r1, T1)) : GR T T1 := by
  have p0 := GR.rf T
  unfold g_X11_bestVelocity at h
  obtain ⟨g2, h⟩ := oif_some h
  rcases othr_s h with ⟨k9, r9, e9, -⟩ | ⟨r4, T3, eT3, h⟩
  · exact GR.tr p0 (gr_sp (s_X11_needCamera e9))
  have p1 : GR T T3 := GR.tr p0 (gr_sp (s_X11_needCamera eT3))
  obtain ⟨g5, h⟩ := oif_some h
  rcases othr_s h with ⟨k9, r9, e9, -⟩ | ⟨r7, T6, eT6, h⟩
  · exact GR.tr p1 (gr_sp (s_X11_needCell e9))
  have p2 : GR T T6 := GR.tr p1 (gr_sp (s_X11_needCell eT6))
  rcases othr_s h with ⟨k9, r9, e9, -⟩ | ⟨r9, T8, eT8, h⟩
  · exact GR.tr p2 (gr_sp (s_X11_needRange e9))
  have p3 : GR T T8 := GR.tr p2 (gr_sp (s_X11_needRange eT8))
  rcases othr_s h with ⟨k9, r9, e9, -⟩ | ⟨r11, T10, eT10, h⟩
  · exact GR.tr p3 (gr_sp (s_X11_needRange e9))
  have p4 : GR T T10 := GR.tr p3 (gr_sp (s_X11_needRange eT10))
  obtain ⟨v12, -, h⟩ := elet_some h
  exact GR.tr p4 (sr_X11_bestVelocity_b29 _ _ _ _ _ _ _ _ h)
set_option maxHeartbeats 4000000 in
set_option maxRecDepth 100000 in
theorem sr_X11_correlation_b43 {e1 : Nat} {r1 : Int64} {T1 : AT} : ∀ (T : AT) (l0 : Nat), g_X11_correlation_b43 T l0 = some (e1, r1, T1) → GR T T1 := by
  intro T l0 h
  have p0 := GR.rf T
  unfold g_X11_correlation_b43 at h
  obtain ⟨g2, h⟩ := oif_some h
  obtain ⟨n3, en3, h⟩ := obind_some h
  obtain ⟨g4, h⟩ := oif_some h
  obtain ⟨r6, T5, eT5, h⟩ := obind2_some h
  have p1 : GR T T5 := GR.tr p0 (gr_sp (s_X10_value eT5))
  rw [← (osome3 h).2.2]
  exact p1
set_option maxHeartbeats 4000000 in
set_option maxRecDepth 100000 in
theorem sr_X11_correlation {T : AT} {o : Nat} {a0 : Int32} {a1 : Int32} {a2 : Int32} {e1 : Nat} {r1 : Int64} {T1 : AT} (h : g_X11_correlation T o a0 a1 a2 = some (e1, r1, T1)) : GR T T1 := by
  have p0 := GR.rf T
  unfold g_X11_correlation at h
  obtain ⟨g2, h⟩ := oif_some h
  rcases othr_s h with ⟨k9, r9, e9, -⟩ | ⟨r4, T3, eT3, h⟩
  · exact GR.tr p0 (gr_sp (s_X11_needCamera e9))
  have p1 : GR T T3 := GR.tr p0 (gr_sp (s_X11_needCamera eT3))
  obtain ⟨g5, h⟩ := oif_some h
  rcases othr_s h with ⟨k9, r9, e9, -⟩ | ⟨r7, T6, eT6, h⟩
  · exact GR.tr p1 (gr_sp (s_X11_needMic e9))
  have p2 : GR T T6 := GR.tr p1 (gr_sp (s_X11_needMic eT6))
  obtain ⟨g8, h⟩ := oif_some h
  rcases othr_s h with ⟨k9, r9, e9, -⟩ | ⟨r10, T9, eT9, h⟩
  · exact GR.tr p2 (gr_sp (s_X11_needMic e9))
  have p3 : GR T T9 := GR.tr p2 (gr_sp (s_X11_needMic eT9))
  obtain ⟨g11, h⟩ := oif_some h
  obtain ⟨n12, en12, h⟩ := obind_some h
  obtain ⟨g13, h⟩ := oif_some h
  obtain ⟨v14, -, h⟩ := elet_some h
  obtain ⟨v15, -, h⟩ := elet_some h
  rcases othr_s h with ⟨k9, r9, e9, -⟩ | ⟨r17, T16, eT16, h⟩
  · exact GR.tr p3 (gr_sp (s_X11_needRange e9))
  have p4 : GR T T16 := GR.tr p3 (gr_sp (s_X11_needRange eT16))
  obtain ⟨g18, h⟩ := oif_some h
  obtain ⟨n19, en19, h⟩ := obind_some h
  obtain ⟨g20, h⟩ := oif_some h
  obtain ⟨n21, en21, h⟩ := obind_some h
  obtain ⟨g22, h⟩ := oif_some h
  obtain ⟨T23, eT23, h⟩ := obind_some h
  have p5 : GR T T23 := GR.tr p4 (sr_X8_productSum eT23)
  exact GR.tr p5 (sr_X11_correlation_b43 _ _ h)
set_option maxHeartbeats 4000000 in
set_option maxRecDepth 100000 in
theorem sr_X11_bestLag_b100 {e1 : Nat} {r1 : Int32} {T1 : AT} {k49 : AT → Nat → Int32 → Int32 → Int32 → Int32 → Int32 → Option (Nat × Int32 × AT)} (hk49 : ∀ (T : AT) (l0 : Nat) (l1 : Int32) (l2 : Int32) (l3 : Int32) (l4 : Int32) (l5 : Int32), k49 T l0 l1 l2 l3 l4 l5 = some (e1, r1, T1) → GR T T1) : ∀ (T : AT) (l0 : Nat) (l1 : Int32) (l2 : Int32) (l3 : Int32) (l4 : Int32) (l5 : Int32), g_X11_bestLag_b100 k49 T l0 l1 l2 l3 l4 l5 = some (e1, r1, T1) → GR T T1 := by
  intro T l0 l1 l2 l3 l4 l5 h
  have p0 := GR.rf T
  unfold g_X11_bestLag_b100 at h
  obtain ⟨v2, ev2, h⟩ := elet_some h
  exact GR.tr p0 (hk49 _ _ _ _ _ _ _ h)
set_option maxHeartbeats 4000000 in
set_option maxRecDepth 100000 in
theorem sr_X11_bestLag_b96 {e1 : Nat} {r1 : Int32} {T1 : AT} {k49 : AT → Nat → Int32 → Int32 → Int32 → Int32 → Int32 → Option (Nat × Int32 × AT)} (hk49 : ∀ (T : AT) (l0 : Nat) (l1 : Int32) (l2 : Int32) (l3 : Int32) (l4 : Int32) (l5 : Int32), k49 T l0 l1 l2 l3 l4 l5 = some (e1, r1, T1) → GR T T1) : ∀ (T : AT) (l0 : Nat) (l1 : Int32) (l2 : Int32) (l3 : Int32) (l5 : Int32), g_X11_bestLag_b96 k49 T l0 l1 l2 l3 l5 = some (e1, r1, T1) → GR T T1 := by
  intro T l0 l1 l2 l3 l5 h
  have p0 := GR.rf T
  unfold g_X11_bestLag_b96 at h
  exact GR.tr p0 (sr_X11_bestLag_b100 hk49 _ _ _ _ _ _ _ h)
set_option maxHeartbeats 4000000 in
set_option maxRecDepth 100000 in
theorem sr_X11_bestLag_b71 {e1 : Nat} {r1 : Int32} {T1 : AT} {k49 : AT → Nat → Int32 → Int32 → Int32 → Int32 → Int32 → Option (Nat × Int32 × AT)} (hk49 : ∀ (T : AT) (l0 : Nat) (l1 : Int32) (l2 : Int32) (l3 : Int32) (l4 : Int32) (l5 : Int32), k49 T l0 l1 l2 l3 l4 l5 = some (e1, r1, T1) → GR T T1) : ∀ (T : AT) (l0 : Nat) (l1 : Int32) (l2 : Int32) (l3 : Int32) (l4 : Int32) (l5 : Int32), g_X11_bestLag_b71 k49 T l0 l1 l2 l3 l4 l5 = some (e1, r1, T1) → GR T T1 := by
  intro T l0 l1 l2 l3 l4 l5 h
  have p0 := GR.rf T
  unfold g_X11_bestLag_b71 at h
  obtain ⟨g2, h⟩ := oif_some h
  obtain ⟨n3, en3, h⟩ := obind_some h
  obtain ⟨g4, h⟩ := oif_some h
  obtain ⟨r6, T5, eT5, h⟩ := obind2_some h
  have p1 : GR T T5 := GR.tr p0 (gr_sp (s_X10_compare eT5))
  rcases oif_or h with ⟨c7, h⟩ | ⟨c7, h⟩
  · have h := h
    exact GR.tr p1 (sr_X11_bestLag_b100 hk49 _ _ _ _ _ _ _ h)
  · have h := h
    obtain ⟨g8, h⟩ := oif_some h
    obtain ⟨n9, en9, h⟩ := obind_some h
    obtain ⟨g10, h⟩ := oif_some h
    obtain ⟨n11, en11, h⟩ := obind_some h
    obtain ⟨g12, h⟩ := oif_some h
    obtain ⟨T13, eT13, h⟩ := obind_some h
    have p2 : GR T T13 := GR.tr p1 (sr_X10_set eT13)
    exact GR.tr p2 (sr_X11_bestLag_b96 hk49 _ _ _ _ _ _ h)
set_option maxHeartbeats 4000000 in
set_option maxRecDepth 100000 in
theorem sr_X11_bestLag_b49 {e1 : Nat} {r1 : Int32} {T1 : AT} : ∀ n : Nat, ∀ (T : AT) (l0 : Nat) (l1 : Int32) (l2 : Int32) (l3 : Int32) (l4 : Int32) (l5 : Int32), g_X11_bestLag_b49 n T l0 l1 l2 l3 l4 l5 = some (e1, r1, T1) → GR T T1 := by
  intro n
  induction n with
  | zero =>
    intro T l0 l1 l2 l3 l4 l5 h
    have h : (none : Option (Nat × Int32 × AT)) = some (e1, r1, T1) := h
    cases h
  | succ n ih =>
    intro T l0 l1 l2 l3 l4 l5 h
    have p0 := GR.rf T
    unfold g_X11_bestLag_b49 at h
    rcases oif_or h with ⟨c2, h⟩ | ⟨c2, h⟩
    · have h := h
      rw [← (osome3 h).2.2]
      exact p0
    · have h := h
      obtain ⟨g3, h⟩ := oif_some h
      obtain ⟨n4, en4, h⟩ := obind_some h
      obtain ⟨g5, h⟩ := oif_some h
      obtain ⟨n6, en6, h⟩ := obind_some h
      obtain ⟨g7, h⟩ := oif_some h
      obtain ⟨T8, eT8, h⟩ := obind_some h
      have p1 : GR T T8 := GR.tr p0 (sr_X8_productSum eT8)
      exact GR.tr p1 (sr_X11_bestLag_b71 ih _ _ _ _ _ _ _ h)
set_option maxHeartbeats 4000000 in
set_option maxRecDepth 100000 in
theorem sr_X11_bestLag_b46 {e1 : Nat} {r1 : Int32} {T1 : AT} : ∀ (T : AT) (l0 : Nat) (l1 : Int32) (l2 : Int32) (l3 : Int32) (l4 : Int32), g_X11_bestLag_b46 T l0 l1 l2 l3 l4 = some (e1, r1, T1) → GR T T1 := by
  intro T l0 l1 l2 l3 l4 h
  have p0 := GR.rf T
  unfold g_X11_bestLag_b46 at h
  exact GR.tr p0 (sr_X11_bestLag_b49 _ _ _ _ _ _ _ _ h)
set_option maxHeartbeats 4000000 in
set_option maxRecDepth 100000 in
theorem sr_X11_bestLag {T : AT} {o : Nat} {a0 : Int32} {a1 : Int32} {a2 : Int32} {e1 : Nat} {r1 : Int32} {T1 : AT} (h : g_X11_bestLag T o a0 a1 a2 = some (e1, r1, T1)) : GR T T1 := by
  have p0 := GR.rf T
  unfold g_X11_bestLag at h
  obtain ⟨g2, h⟩ := oif_some h
  rcases othr_s h with ⟨k9, r9, e9, -⟩ | ⟨r4, T3, eT3, h⟩
  · exact GR.tr p0 (gr_sp (s_X11_needCamera e9))
  have p1 : GR T T3 := GR.tr p0 (gr_sp (s_X11_needCamera eT3))
  obtain ⟨g5, h⟩ := oif_some h
  rcases othr_s h with ⟨k9, r9, e9, -⟩ | ⟨r7, T6, eT6, h⟩
  · exact GR.tr p1 (gr_sp (s_X11_needMic e9))
  have p2 : GR T T6 := GR.tr p1 (gr_sp (s_X11_needMic eT6))
  obtain ⟨g8, h⟩ := oif_some h
  rcases othr_s h with ⟨k9, r9, e9, -⟩ | ⟨r10, T9, eT9, h⟩
  · exact GR.tr p2 (gr_sp (s_X11_needMic e9))
  have p3 : GR T T9 := GR.tr p2 (gr_sp (s_X11_needMic eT9))
  obtain ⟨g11, h⟩ := oif_some h
  obtain ⟨n12, en12, h⟩ := obind_some h
  obtain ⟨g13, h⟩ := oif_some h
  obtain ⟨v14, -, h⟩ := elet_some h
  obtain ⟨v15, -, h⟩ := elet_some h
  rcases othr_s h with ⟨k9, r9, e9, -⟩ | ⟨r17, T16, eT16, h⟩
  · exact GR.tr p3 (gr_sp (s_X11_needRange e9))
  have p4 : GR T T16 := GR.tr p3 (gr_sp (s_X11_needRange eT16))
  obtain ⟨g18, h⟩ := oif_some h
  obtain ⟨n19, en19, h⟩ := obind_some h
  obtain ⟨g20, h⟩ := oif_some h
  obtain ⟨n21, en21, h⟩ := obind_some h
  obtain ⟨g22, h⟩ := oif_some h
  obtain ⟨T23, eT23, h⟩ := obind_some h
  have p5 : GR T T23 := GR.tr p4 (sr_X8_productSum eT23)
  exact GR.tr p5 (sr_X11_bestLag_b46 _ _ _ _ _ _ h)
set_option maxHeartbeats 4000000 in
set_option maxRecDepth 100000 in
theorem sr_X11_measureLevel_b30 {T1 : AT} : ∀ (T : AT), g_X11_measureLevel_b30 T = some T1 → GR T T1 := by
  intro T h
  have p0 := GR.rf T
  unfold g_X11_measureLevel_b30 at h
  rw [← osome1 h]
  exact p0
set_option maxHeartbeats 4000000 in
set_option maxRecDepth 100000 in
theorem sr_X11_measureLevel_b15 {T1 : AT} : ∀ (T : AT) (l0 : Nat) (l1 : Int32), g_X11_measureLevel_b15 T l0 l1 = some T1 → GR T T1 := by
  intro T l0 l1 h
  have p0 := GR.rf T
  unfold g_X11_measureLevel_b15 at h
  obtain ⟨g2, h⟩ := oif_some h
  obtain ⟨n3, en3, h⟩ := obind_some h
  obtain ⟨g4, h⟩ := oif_some h
  obtain ⟨n5, en5, h⟩ := obind_some h
  obtain ⟨g6, h⟩ := oif_some h
  obtain ⟨v7, -, h⟩ := elet_some h
  obtain ⟨g8, h⟩ := oif_some h
  obtain ⟨T9, eT9, h⟩ := obind_some h
  have p1 : GR T T9 := GR.tr p0 (sr_X10_divide eT9)
  exact GR.tr p1 (sr_X11_measureLevel_b30 _ h)
set_option maxHeartbeats 4000000 in
set_option maxRecDepth 100000 in
theorem sr_X11_measureLevel {T : AT} {o : Nat} {a0 : Int32} {T1 : AT} (h : g_X11_measureLevel T o a0 = some T1) : GR T T1 := by
  have p0 := GR.rf T
  unfold g_X11_measureLevel at h
  obtain ⟨g2, h⟩ := oif_some h
  obtain ⟨n3, en3, h⟩ := obind_some h
  obtain ⟨g4, h⟩ := oif_some h
  obtain ⟨n5, en5, h⟩ := obind_some h
  obtain ⟨g6, h⟩ := oif_some h
  obtain ⟨T7, eT7, h⟩ := obind_some h
  have p1 : GR T T7 := GR.tr p0 (sr_X8_productSum eT7)
  exact GR.tr p1 (sr_X11_measureLevel_b15 _ _ _ h)
set_option maxHeartbeats 4000000 in
set_option maxRecDepth 100000 in
theorem sr_X11_level_b14 {e1 : Nat} {r1 : Int64} {T1 : AT} : ∀ (T : AT) (l0 : Nat) (l1 : Int32), g_X11_level_b14 T l0 l1 = some (e1, r1, T1) → GR T T1 := by
  intro T l0 l1 h
  have p0 := GR.rf T
  unfold g_X11_level_b14 at h
  obtain ⟨g2, h⟩ := oif_some h
  obtain ⟨n3, en3, h⟩ := obind_some h
  obtain ⟨g4, h⟩ := oif_some h
  obtain ⟨r6, T5, eT5, h⟩ := obind2_some h
  have p1 : GR T T5 := GR.tr p0 (gr_sp (s_X10_value eT5))
  rw [← (osome3 h).2.2]
  exact p1
set_option maxHeartbeats 4000000 in
set_option maxRecDepth 100000 in
theorem sr_X11_level {T : AT} {o : Nat} {a0 : Int32} {e1 : Nat} {r1 : Int64} {T1 : AT} (h : g_X11_level T o a0 = some (e1, r1, T1)) : GR T T1 := by
  have p0 := GR.rf T
  unfold g_X11_level at h
  obtain ⟨g2, h⟩ := oif_some h
  rcases othr_s h with ⟨k9, r9, e9, -⟩ | ⟨r4, T3, eT3, h⟩
  · exact GR.tr p0 (gr_sp (s_X11_needCamera e9))
  have p1 : GR T T3 := GR.tr p0 (gr_sp (s_X11_needCamera eT3))
  obtain ⟨g5, h⟩ := oif_some h
  rcases othr_s h with ⟨k9, r9, e9, -⟩ | ⟨r7, T6, eT6, h⟩
  · exact GR.tr p1 (gr_sp (s_X11_needMic e9))
  have p2 : GR T T6 := GR.tr p1 (gr_sp (s_X11_needMic eT6))
  obtain ⟨g8, h⟩ := oif_some h
  obtain ⟨T9, eT9, h⟩ := obind_some h
  have p3 : GR T T9 := GR.tr p2 (sr_X11_measureLevel eT9)
  exact GR.tr p3 (sr_X11_level_b14 _ _ _ h)
set_option maxHeartbeats 4000000 in
set_option maxRecDepth 100000 in
theorem sr_X11_loudest_b33 {e1 : Nat} {r1 : Int32} {T1 : AT} {k17 : AT → Nat → Int32 → Int32 → Option (Nat × Int32 × AT)} (hk17 : ∀ (T : AT) (l0 : Nat) (l1 : Int32) (l2 : Int32), k17 T l0 l1 l2 = some (e1, r1, T1) → GR T T1) : ∀ (T : AT) (l0 : Nat) (l1 : Int32) (l2 : Int32), g_X11_loudest_b33 k17 T l0 l1 l2 = some (e1, r1, T1) → GR T T1 := by
  intro T l0 l1 l2 h
  have p0 := GR.rf T
  unfold g_X11_loudest_b33 at h
  obtain ⟨v2, ev2, h⟩ := elet_some h
  exact GR.tr p0 (hk17 _ _ _ _ h)
set_option maxHeartbeats 4000000 in
set_option maxRecDepth 100000 in
theorem sr_X11_loudest_b17 {e1 : Nat} {r1 : Int32} {T1 : AT} : ∀ n : Nat, ∀ (T : AT) (l0 : Nat) (l1 : Int32) (l2 : Int32), g_X11_loudest_b17 n T l0 l1 l2 = some (e1, r1, T1) → GR T T1 := by
  intro n
  induction n with
  | zero =>
    intro T l0 l1 l2 h
    have h : (none : Option (Nat × Int32 × AT)) = some (e1, r1, T1) := h
    cases h
  | succ n ih =>
    intro T l0 l1 l2 h
    have p0 := GR.rf T
    unfold g_X11_loudest_b17 at h
    obtain ⟨g2, h⟩ := oif_some h
    obtain ⟨n3, en3, h⟩ := obind_some h
    obtain ⟨g4, h⟩ := oif_some h
    obtain ⟨v5, -, h⟩ := elet_some h
    rcases oif_or h with ⟨c6, h⟩ | ⟨c6, h⟩
    · have h := h
      obtain ⟨g7, h⟩ := oif_some h
      obtain ⟨n8, en8, h⟩ := obind_some h
      obtain ⟨g9, h⟩ := oif_some h
      obtain ⟨n10, en10, h⟩ := obind_some h
      obtain ⟨g11, h⟩ := oif_some h
      obtain ⟨v12, -, h⟩ := elet_some h
      obtain ⟨g13, h⟩ := oif_some h
      obtain ⟨r15, T14, eT14, h⟩ := obind2_some h
      have p1 : GR T T14 := GR.tr p0 (gr_sp (s_X10_ranked eT14))
      rw [← (osome3 h).2.2]
      exact p1
    · have h := h
      obtain ⟨g16, h⟩ := oif_some h
      obtain ⟨T17, eT17, h⟩ := obind_some h
      have p1 : GR T T17 := GR.tr p0 (sr_X11_measureLevel eT17)
      exact GR.tr p1 (sr_X11_loudest_b33 ih _ _ _ _ h)
set_option maxHeartbeats 4000000 in
set_option maxRecDepth 100000 in
theorem sr_X11_loudest {T : AT} {o : Nat} {a0 : Int32} {e1 : Nat} {r1 : Int32} {T1 : AT} (h : g_X11_loudest T o a0 = some (e1, r1, T1)) : GR T T1 := by
  have p0 := GR.rf T
  unfold g_X11_loudest at h
  obtain ⟨g2, h⟩ := oif_some h
  rcases othr_s h with ⟨k9, r9, e9, -⟩ | ⟨r4, T3, eT3, h⟩
  · exact GR.tr p0 (gr_sp (s_X11_needCamera e9))
  have p1 : GR T T3 := GR.tr p0 (gr_sp (s_X11_needCamera eT3))
  obtain ⟨g5, h⟩ := oif_some h
  obtain ⟨n6, en6, h⟩ := obind_some h
  obtain ⟨g7, h⟩ := oif_some h
  obtain ⟨v8, -, h⟩ := elet_some h
  rcases othr_s h with ⟨k9, r9, e9, -⟩ | ⟨r10, T9, eT9, h⟩
  · exact GR.tr p1 (gr_sp (s_X11_needIndex e9))
  have p2 : GR T T9 := GR.tr p1 (gr_sp (s_X11_needIndex eT9))
  exact GR.tr p2 (sr_X11_loudest_b17 _ _ _ _ _ h)
set_option maxHeartbeats 4000000 in
set_option maxRecDepth 100000 in
theorem sr_X11_writeMap_b66 {e1 : Nat} {r1 : Int32} {T1 : AT} {k16 : AT → Nat → Nat → Int32 → Option (Nat × Int32 × AT)} (hk16 : ∀ (T : AT) (l0 : Nat) (l1 : Nat) (l2 : Int32), k16 T l0 l1 l2 = some (e1, r1, T1) → GR T T1) : ∀ (T : AT) (s0 : Int32) (s1 : Int32) (s2 : Nat) (l0 : Nat) (l1 : Nat) (l2 : Int32), g_X11_writeMap_b66 k16 T s0 s1 s2 l0 l1 l2 = some (e1, r1, T1) → GR T T1 := by
  intro T s0 s1 s2 l0 l1 l2 h
  have p0 := GR.rf T
  unfold g_X11_writeMap_b66 at h
  obtain ⟨v2, -, h⟩ := elet_some h
  obtain ⟨g3, h⟩ := oif_some h
  obtain ⟨T4, eT4, h⟩ := obind_some h
  have p1 : GR T T4 := GR.tr p0 (gr_sp (s_X11_addMapByte eT4))
  obtain ⟨v6, ev6, h⟩ := elet_some h
  exact GR.tr p1 (hk16 _ _ _ _ h)
set_option maxHeartbeats 4000000 in
set_option maxRecDepth 100000 in
theorem sr_X11_writeMap_b54 {e1 : Nat} {r1 : Int32} {T1 : AT} {k16 : AT → Nat → Nat → Int32 → Option (Nat × Int32 × AT)} (hk16 : ∀ (T : AT) (l0 : Nat) (l1 : Nat) (l2 : Int32), k16 T l0 l1 l2 = some (e1, r1, T1) → GR T T1) : ∀ (T : AT) (l0 : Nat) (l1 : Nat) (l2 : Int32), g_X11_writeMap_b54 k16 T l0 l1 l2 = some (e1, r1, T1) → GR T T1 := by
  intro T l0 l1 l2 h
  have p0 := GR.rf T
  unfold g_X11_writeMap_b54 at h
  obtain ⟨g2, h⟩ := oif_some h
  obtain ⟨n3, en3, h⟩ := obind_some h
  obtain ⟨g4, h⟩ := oif_some h
  obtain ⟨r6, T5, eT5, h⟩ := obind2_some h
  have p1 : GR T T5 := GR.tr p0 (sr_X4_digit eT5)
  exact GR.tr p1 (sr_X11_writeMap_b66 hk16 _ _ _ _ _ _ _ h)
set_option maxHeartbeats 4000000 in
set_option maxRecDepth 100000 in
theorem sr_X11_writeMap_b16 {e1 : Nat} {r1 : Int32} {T1 : AT} : ∀ n : Nat, ∀ (T : AT) (l0 : Nat) (l1 : Nat) (l2 : Int32), g_X11_writeMap_b16 n T l0 l1 l2 = some (e1, r1, T1) → GR T T1 := by
  intro n
  induction n with
  | zero =>
    intro T l0 l1 l2 h
    have h : (none : Option (Nat × Int32 × AT)) = some (e1, r1, T1) := h
    cases h
  | succ n ih =>
    intro T l0 l1 l2 h
    have p0 := GR.rf T
    unfold g_X11_writeMap_b16 at h
    obtain ⟨g2, h⟩ := oif_some h
    obtain ⟨n3, en3, h⟩ := obind_some h
    obtain ⟨g4, h⟩ := oif_some h
    obtain ⟨n5, en5, h⟩ := obind_some h
    obtain ⟨g6, h⟩ := oif_some h
    obtain ⟨r8, T7, eT7, h⟩ := obind2_some h
    have p1 : GR T T7 := GR.tr p0 (gr_sp (s_X1_cells eT7))
    rcases oif_or h with ⟨c9, h⟩ | ⟨c9, h⟩
    · have h := h
      obtain ⟨g10, h⟩ := oif_some h
      obtain ⟨v11, -, h⟩ := elet_some h
      rw [← (osome3 h).2.2]
      exact p1
    · have h := h
      rcases oif_or h with ⟨c12, h⟩ | ⟨c12, h⟩
      · have h := h
        exact GR.tr p1 (sr_X11_writeMap_b54 ih _ _ _ _ h)
      · have h := h
        obtain ⟨g13, h⟩ := oif_some h
        obtain ⟨n14, en14, h⟩ := obind_some h
        obtain ⟨g15, h⟩ := oif_some h
        obtain ⟨n16, en16, h⟩ := obind_some h
        obtain ⟨g17, h⟩ := oif_some h
        obtain ⟨r19, T18, eT18, h⟩ := obind2_some h
        have p2 : GR T T18 := GR.tr p1 (gr_sp (s_X1_columnOf eT18))
        rcases oif_or h with ⟨c20, h⟩ | ⟨c20, h⟩
        · have h := h
          obtain ⟨g21, h⟩ := oif_some h
          obtain ⟨T22, eT22, h⟩ := obind_some h
          have p3 : GR T T22 := GR.tr p2 (gr_sp (s_X11_addMapByte eT22))
          exact GR.tr p3 (sr_X11_writeMap_b54 ih _ _ _ _ h)
        · have h := h
          exact GR.tr p2 (sr_X11_writeMap_b54 ih _ _ _ _ h)
set_option maxHeartbeats 4000000 in
set_option maxRecDepth 100000 in
theorem sr_X11_writeMap_b8 {e1 : Nat} {r1 : Int32} {T1 : AT} : ∀ (T : AT) (s0 : Nat) (l0 : Nat), g_X11_writeMap_b8 T s0 l0 = some (e1, r1, T1) → GR T T1 := by
  intro T s0 l0 h
  have p0 := GR.rf T
  unfold g_X11_writeMap_b8 at h
  obtain ⟨g2, h⟩ := oif_some h
  obtain ⟨T3, eT3, h⟩ := elet_some h
  have p1 : GR T T3 := GR.tr p0 (by rw [eT3]; exact gr_sp sp_uI)
  exact GR.tr p1 (sr_X11_writeMap_b16 _ _ _ _ _ h)
set_option maxHeartbeats 4000000 in
set_option maxRecDepth 100000 in
theorem sr_X11_writeMap {T : AT} {o : Nat} {e1 : Nat} {r1 : Int32} {T1 : AT} (h : g_X11_writeMap T o = some (e1, r1, T1)) : GR T T1 := by
  have p0 := GR.rf T
  unfold g_X11_writeMap at h
  obtain ⟨g2, h⟩ := oif_some h
  rcases othr_s h with ⟨k9, r9, e9, -⟩ | ⟨r4, T3, eT3, h⟩
  · exact GR.tr p0 (gr_sp (s_X11_needCamera e9))
  have p1 : GR T T3 := GR.tr p0 (gr_sp (s_X11_needCamera eT3))
  obtain ⟨g5, h⟩ := oif_some h
  obtain ⟨r7, T6, eT6, h⟩ := obind2_some h
  obtain ⟨g8, h⟩ := oif_some h
  have p2 : GR T T6 := GR.tr p1 (sr_X11_powersNow eT6)
  exact GR.tr p2 (sr_X11_writeMap_b8 _ _ _ h)
set_option maxHeartbeats 4000000 in
set_option maxRecDepth 100000 in
theorem sr_X11_recordPoint_b28 {T1 : AT} : ∀ (T : AT), g_X11_recordPoint_b28 T = some T1 → GR T T1 := by
  intro T h
  have p0 := GR.rf T
  unfold g_X11_recordPoint_b28 at h
  rw [← osome1 h]
  exact p0
set_option maxHeartbeats 4000000 in
set_option maxRecDepth 100000 in
theorem sr_X11_recordPoint_b11 {T1 : AT} : ∀ (T : AT) (l0 : Nat) (l1 : Int32) (l2 : Int32), g_X11_recordPoint_b11 T l0 l1 l2 = some T1 → GR T T1 := by
  intro T l0 l1 l2 h
  have p0 := GR.rf T
  unfold g_X11_recordPoint_b11 at h
  obtain ⟨g2, h⟩ := oif_some h
  obtain ⟨n3, en3, h⟩ := obind_some h
  obtain ⟨g4, h⟩ := oif_some h
  obtain ⟨n5, en5, h⟩ := obind_some h
  obtain ⟨g6, h⟩ := oif_some h
  obtain ⟨n7, en7, h⟩ := obind_some h
  obtain ⟨g8, h⟩ := oif_some h
  obtain ⟨T9, eT9, h⟩ := obind_some h
  have p1 : GR T T9 := GR.tr p0 (sr_X5_recordPoint eT9)
  exact GR.tr p1 (sr_X11_recordPoint_b28 _ h)
set_option maxHeartbeats 4000000 in
set_option maxRecDepth 100000 in
theorem sr_X11_recordPoint {T : AT} {o : Nat} {a0 : Int32} {a1 : Int32} {T1 : AT} (h : g_X11_recordPoint T o a0 a1 = some T1) : GR T T1 := by
  have p0 := GR.rf T
  unfold g_X11_recordPoint at h
  obtain ⟨g2, h⟩ := oif_some h
  obtain ⟨n3, en3, h⟩ := obind_some h
  obtain ⟨g4, h⟩ := oif_some h
  obtain ⟨n5, en5, h⟩ := obind_some h
  obtain ⟨g6, h⟩ := oif_some h
  obtain ⟨T7, eT7, h⟩ := obind_some h
  have p1 : GR T T7 := GR.tr p0 (sr_X8_copyFrom eT7)
  exact GR.tr p1 (sr_X11_recordPoint_b11 _ _ _ _ h)
set_option maxHeartbeats 4000000 in
set_option maxRecDepth 100000 in
theorem sr_X11_trialBest_b15 {r1 : Int32} {T1 : AT} : ∀ (T : AT) (l0 : Nat), g_X11_trialBest_b15 T l0 = some (r1, T1) → GR T T1 := by
  intro T l0 h
  have p0 := GR.rf T
  unfold g_X11_trialBest_b15 at h
  obtain ⟨g2, h⟩ := oif_some h
  obtain ⟨n3, en3, h⟩ := obind_some h
  obtain ⟨g4, h⟩ := oif_some h
  obtain ⟨v5, -, h⟩ := elet_some h
  rw [← (osome2 h).2]
  exact p0
set_option maxHeartbeats 4000000 in
set_option maxRecDepth 100000 in
theorem sr_X11_trialBest {T : AT} {o : Nat} {r1 : Int32} {T1 : AT} (h : g_X11_trialBest T o = some (r1, T1)) : GR T T1 := by
  have p0 := GR.rf T
  unfold g_X11_trialBest at h
  obtain ⟨g2, h⟩ := oif_some h
  obtain ⟨n3, en3, h⟩ := obind_some h
  obtain ⟨g4, h⟩ := oif_some h
  obtain ⟨n5, en5, h⟩ := obind_some h
  obtain ⟨g6, h⟩ := oif_some h
  obtain ⟨n7, en7, h⟩ := obind_some h
  obtain ⟨g8, h⟩ := oif_some h
  obtain ⟨T9, eT9, h⟩ := obind_some h
  have p1 : GR T T9 := GR.tr p0 (sr_X4_measure eT9)
  exact GR.tr p1 (sr_X11_trialBest_b15 _ _ h)
set_option maxHeartbeats 4000000 in
set_option maxRecDepth 100000 in
theorem sr_X11_pointBest_b26 {e1 : Nat} {r1 : Int32} {T1 : AT} : ∀ (T : AT) (s0 : Int32), g_X11_pointBest_b26 T s0 = some (e1, r1, T1) → GR T T1 := by
  intro T s0 h
  have p0 := GR.rf T
  unfold g_X11_pointBest_b26 at h
  rw [← (osome3 h).2.2]
  exact p0
set_option maxHeartbeats 4000000 in
set_option maxRecDepth 100000 in
theorem sr_X11_pointBest_b22 {e1 : Nat} {r1 : Int32} {T1 : AT} : ∀ (T : AT) (l0 : Nat), g_X11_pointBest_b22 T l0 = some (e1, r1, T1) → GR T T1 := by
  intro T l0 h
  have p0 := GR.rf T
  unfold g_X11_pointBest_b22 at h
  obtain ⟨g2, h⟩ := oif_some h
  obtain ⟨r4, T3, eT3, h⟩ := obind2_some h
  have p1 : GR T T3 := GR.tr p0 (sr_X11_trialBest eT3)
  exact GR.tr p1 (sr_X11_pointBest_b26 _ _ h)
set_option maxHeartbeats 4000000 in
set_option maxRecDepth 100000 in
theorem sr_X11_pointBest {T : AT} {o : Nat} {a0 : Int32} {a1 : Int32} {e1 : Nat} {r1 : Int32} {T1 : AT} (h : g_X11_pointBest T o a0 a1 = some (e1, r1, T1)) : GR T T1 := by
  have p0 := GR.rf T
  unfold g_X11_pointBest at h
  obtain ⟨g2, h⟩ := oif_some h
  rcases othr_s h with ⟨k9, r9, e9, -⟩ | ⟨r4, T3, eT3, h⟩
  · exact GR.tr p0 (gr_sp (s_X11_needCamera e9))
  have p1 : GR T T3 := GR.tr p0 (gr_sp (s_X11_needCamera eT3))
  obtain ⟨g5, h⟩ := oif_some h
  rcases othr_s h with ⟨k9, r9, e9, -⟩ | ⟨r7, T6, eT6, h⟩
  · exact GR.tr p1 (gr_sp (s_X11_needCell e9))
  have p2 : GR T T6 := GR.tr p1 (gr_sp (s_X11_needCell eT6))
  rcases othr_s h with ⟨k9, r9, e9, -⟩ | ⟨r9, T8, eT8, h⟩
  · exact GR.tr p2 (gr_sp (s_X11_needRange e9))
  have p3 : GR T T8 := GR.tr p2 (gr_sp (s_X11_needRange eT8))
  obtain ⟨g10, h⟩ := oif_some h
  obtain ⟨T11, eT11, h⟩ := obind_some h
  have p4 : GR T T11 := GR.tr p3 (sr_X11_recordPoint eT11)
  exact GR.tr p4 (sr_X11_pointBest_b22 _ _ h)
set_option maxHeartbeats 4000000 in
set_option maxRecDepth 100000 in
theorem sr_X11_pointPower_b48 {e1 : Nat} {r1 : Int64} {T1 : AT} : ∀ (T : AT) (l0 : Nat), g_X11_pointPower_b48 T l0 = some (e1, r1, T1) → GR T T1 := by
  intro T l0 h
  have p0 := GR.rf T
  unfold g_X11_pointPower_b48 at h
  obtain ⟨g2, h⟩ := oif_some h
  obtain ⟨n3, en3, h⟩ := obind_some h
  obtain ⟨g4, h⟩ := oif_some h
  obtain ⟨r6, T5, eT5, h⟩ := obind2_some h
  have p1 : GR T T5 := GR.tr p0 (gr_sp (s_X10_value eT5))
  rw [← (osome3 h).2.2]
  exact p1
set_option maxHeartbeats 4000000 in
set_option maxRecDepth 100000 in
theorem sr_X11_pointPower_b27 {e1 : Nat} {r1 : Int64} {T1 : AT} : ∀ (T : AT) (l0 : Nat) (l2 : Int32), g_X11_pointPower_b27 T l0 l2 = some (e1, r1, T1) → GR T T1 := by
  intro T l0 l2 h
  have p0 := GR.rf T
  unfold g_X11_pointPower_b27 at h
  obtain ⟨g2, h⟩ := oif_some h
  obtain ⟨n3, en3, h⟩ := obind_some h
  obtain ⟨g4, h⟩ := oif_some h
  obtain ⟨n5, en5, h⟩ := obind_some h
  obtain ⟨g6, h⟩ := oif_some h
  obtain ⟨n7, en7, h⟩ := obind_some h
  obtain ⟨g8, h⟩ := oif_some h
  obtain ⟨g9, h⟩ := oif_some h
  obtain ⟨n10, en10, h⟩ := obind_some h
  obtain ⟨g11, h⟩ := oif_some h
  obtain ⟨n12, en12, h⟩ := obind_some h
  obtain ⟨g13, h⟩ := oif_some h
  obtain ⟨T14, eT14, h⟩ := obind_some h
  have p1 : GR T T14 := GR.tr p0 (sr_X8_powerOf eT14)
  exact GR.tr p1 (sr_X11_pointPower_b48 _ _ h)
set_option maxHeartbeats 4000000 in
set_option maxRecDepth 100000 in
theorem sr_X11_pointPower {T : AT} {o : Nat} {a0 : Int32} {a1 : Int32} {a2 : Int32} {e1 : Nat} {r1 : Int64} {T1 : AT} (h : g_X11_pointPower T o a0 a1 a2 = some (e1, r1, T1)) : GR T T1 := by
  have p0 := GR.rf T
  unfold g_X11_pointPower at h
  obtain ⟨g2, h⟩ := oif_some h
  rcases othr_s h with ⟨k9, r9, e9, -⟩ | ⟨r4, T3, eT3, h⟩
  · exact GR.tr p0 (gr_sp (s_X11_needCamera e9))
  have p1 : GR T T3 := GR.tr p0 (gr_sp (s_X11_needCamera eT3))
  obtain ⟨g5, h⟩ := oif_some h
  rcases othr_s h with ⟨k9, r9, e9, -⟩ | ⟨r7, T6, eT6, h⟩
  · exact GR.tr p1 (gr_sp (s_X11_needCell e9))
  have p2 : GR T T6 := GR.tr p1 (gr_sp (s_X11_needCell eT6))
  obtain ⟨g8, h⟩ := oif_some h
  rcases othr_s h with ⟨k9, r9, e9, -⟩ | ⟨r10, T9, eT9, h⟩
  · exact GR.tr p2 (gr_sp (s_X11_needCell e9))
  have p3 : GR T T9 := GR.tr p2 (gr_sp (s_X11_needCell eT9))
  rcases othr_s h with ⟨k9, r9, e9, -⟩ | ⟨r12, T11, eT11, h⟩
  · exact GR.tr p3 (gr_sp (s_X11_needRange e9))
  have p4 : GR T T11 := GR.tr p3 (gr_sp (s_X11_needRange eT11))
  obtain ⟨g13, h⟩ := oif_some h
  obtain ⟨T14, eT14, h⟩ := obind_some h
  have p5 : GR T T14 := GR.tr p4 (sr_X11_recordPoint eT14)
  exact GR.tr p5 (sr_X11_pointPower_b27 _ _ _ h)
set_option maxHeartbeats 4000000 in
set_option maxRecDepth 100000 in
theorem sr_X11_bestWithout_b34 {e1 : Nat} {r1 : Int32} {T1 : AT} : ∀ (T : AT) (s0 : Int32), g_X11_bestWithout_b34 T s0 = some (e1, r1, T1) → GR T T1 := by
  intro T s0 h
  have p0 := GR.rf T
  unfold g_X11_bestWithout_b34 at h
  rw [← (osome3 h).2.2]
  exact p0
set_option maxHeartbeats 4000000 in
set_option maxRecDepth 100000 in
theorem sr_X11_bestWithout_b20 {e1 : Nat} {r1 : Int32} {T1 : AT} : ∀ (T : AT) (l0 : Nat) (l1 : Int32), g_X11_bestWithout_b20 T l0 l1 = some (e1, r1, T1) → GR T T1 := by
  intro T l0 l1 h
  have p0 := GR.rf T
  unfold g_X11_bestWithout_b20 at h
  obtain ⟨g2, h⟩ := oif_some h
  obtain ⟨n3, en3, h⟩ := obind_some h
  obtain ⟨g4, h⟩ := oif_some h
  obtain ⟨n5, en5, h⟩ := obind_some h
  obtain ⟨g6, h⟩ := oif_some h
  obtain ⟨g7, h⟩ := oif_some h
  obtain ⟨T8, eT8, h⟩ := elet_some h
  have p1 : GR T T8 := GR.tr p0 (by rw [eT8]; exact gr_sp sp_uI)
  obtain ⟨g9, h⟩ := oif_some h
  obtain ⟨r11, T10, eT10, h⟩ := obind2_some h
  have p2 : GR T T10 := GR.tr p1 (sr_X11_trialBest eT10)
  exact GR.tr p2 (sr_X11_bestWithout_b34 _ _ h)
set_option maxHeartbeats 4000000 in
set_option maxRecDepth 100000 in
theorem sr_X11_bestWithout {T : AT} {o : Nat} {a0 : Int32} {e1 : Nat} {r1 : Int32} {T1 : AT} (h : g_X11_bestWithout T o a0 = some (e1, r1, T1)) : GR T T1 := by
  have p0 := GR.rf T
  unfold g_X11_bestWithout at h
  obtain ⟨g2, h⟩ := oif_some h
  rcases othr_s h with ⟨k9, r9, e9, -⟩ | ⟨r4, T3, eT3, h⟩
  · exact GR.tr p0 (gr_sp (s_X11_needCamera e9))
  have p1 : GR T T3 := GR.tr p0 (gr_sp (s_X11_needCamera eT3))
  obtain ⟨g5, h⟩ := oif_some h
  rcases othr_s h with ⟨k9, r9, e9, -⟩ | ⟨r7, T6, eT6, h⟩
  · exact GR.tr p1 (gr_sp (s_X11_needMic e9))
  have p2 : GR T T6 := GR.tr p1 (gr_sp (s_X11_needMic eT6))
  obtain ⟨g8, h⟩ := oif_some h
  obtain ⟨n9, en9, h⟩ := obind_some h
  obtain ⟨g10, h⟩ := oif_some h
  obtain ⟨n11, en11, h⟩ := obind_some h
  obtain ⟨g12, h⟩ := oif_some h
  obtain ⟨T13, eT13, h⟩ := obind_some h
  have p3 : GR T T13 := GR.tr p2 (sr_X8_copyFrom eT13)
  exact GR.tr p3 (sr_X11_bestWithout_b20 _ _ _ h)
set_option maxHeartbeats 4000000 in
set_option maxRecDepth 100000 in
theorem sr_X11_bestIfOff_b49 {e1 : Nat} {r1 : Int32} {T1 : AT} : ∀ (T : AT) (s0 : Int32), g_X11_bestIfOff_b49 T s0 = some (e1, r1, T1) → GR T T1 := by
  intro T s0 h
  have p0 := GR.rf T
  unfold g_X11_bestIfOff_b49 at h
  rw [← (osome3 h).2.2]
  exact p0
set_option maxHeartbeats 4000000 in
set_option maxRecDepth 100000 in
theorem sr_X11_bestIfOff_b45 {e1 : Nat} {r1 : Int32} {T1 : AT} : ∀ (T : AT) (l0 : Nat), g_X11_bestIfOff_b45 T l0 = some (e1, r1, T1) → GR T T1 := by
  intro T l0 h
  have p0 := GR.rf T
  unfold g_X11_bestIfOff_b45 at h
  obtain ⟨g2, h⟩ := oif_some h
  obtain ⟨r4, T3, eT3, h⟩ := obind2_some h
  have p1 : GR T T3 := GR.tr p0 (sr_X11_trialBest eT3)
  exact GR.tr p1 (sr_X11_bestIfOff_b49 _ _ h)
set_option maxHeartbeats 4000000 in
set_option maxRecDepth 100000 in
theorem sr_X11_bestIfOff_b20 {e1 : Nat} {r1 : Int32} {T1 : AT} : ∀ (T : AT) (l0 : Nat) (l1 : Int32), g_X11_bestIfOff_b20 T l0 l1 = some (e1, r1, T1) → GR T T1 := by
  intro T l0 l1 h
  have p0 := GR.rf T
  unfold g_X11_bestIfOff_b20 at h
  obtain ⟨g2, h⟩ := oif_some h
  obtain ⟨n3, en3, h⟩ := obind_some h
  obtain ⟨g4, h⟩ := oif_some h
  obtain ⟨n5, en5, h⟩ := obind_some h
  obtain ⟨g6, h⟩ := oif_some h
  obtain ⟨g7, h⟩ := oif_some h
  obtain ⟨T8, eT8, h⟩ := elet_some h
  have p1 : GR T T8 := GR.tr p0 (by rw [eT8]; exact gr_sp sp_uI)
  obtain ⟨g9, h⟩ := oif_some h
  obtain ⟨n10, en10, h⟩ := obind_some h
  obtain ⟨g11, h⟩ := oif_some h
  obtain ⟨n12, en12, h⟩ := obind_some h
  obtain ⟨g13, h⟩ := oif_some h
  obtain ⟨n14, en14, h⟩ := obind_some h
  obtain ⟨g15, h⟩ := oif_some h
  obtain ⟨T16, eT16, h⟩ := obind_some h
  have p2 : GR T T16 := GR.tr p1 (sr_X5_record eT16)
  exact GR.tr p2 (sr_X11_bestIfOff_b45 _ _ h)
set_option maxHeartbeats 4000000 in
set_option maxRecDepth 100000 in
theorem sr_X11_bestIfOff {T : AT} {o : Nat} {a0 : Int32} {e1 : Nat} {r1 : Int32} {T1 : AT} (h : g_X11_bestIfOff T o a0 = some (e1, r1, T1)) : GR T T1 := by
  have p0 := GR.rf T
  unfold g_X11_bestIfOff at h
  obtain ⟨g2, h⟩ := oif_some h
  rcases othr_s h with ⟨k9, r9, e9, -⟩ | ⟨r4, T3, eT3, h⟩
  · exact GR.tr p0 (gr_sp (s_X11_needCamera e9))
  have p1 : GR T T3 := GR.tr p0 (gr_sp (s_X11_needCamera eT3))
  obtain ⟨g5, h⟩ := oif_some h
  rcases othr_s h with ⟨k9, r9, e9, -⟩ | ⟨r7, T6, eT6, h⟩
  · exact GR.tr p1 (gr_sp (s_X11_needSource e9))
  have p2 : GR T T6 := GR.tr p1 (gr_sp (s_X11_needSource eT6))
  obtain ⟨g8, h⟩ := oif_some h
  obtain ⟨n9, en9, h⟩ := obind_some h
  obtain ⟨g10, h⟩ := oif_some h
  obtain ⟨n11, en11, h⟩ := obind_some h
  obtain ⟨g12, h⟩ := oif_some h
  obtain ⟨T13, eT13, h⟩ := obind_some h
  have p3 : GR T T13 := GR.tr p2 (sr_X8_copyFrom eT13)
  exact GR.tr p3 (sr_X11_bestIfOff_b20 _ _ _ h)
set_option maxHeartbeats 4000000 in
set_option maxRecDepth 100000 in
theorem sr_X11_keepForUndo_b48 {T1 : AT} : ∀ (T : AT) (l0 : Nat), g_X11_keepForUndo_b48 T l0 = some T1 → GR T T1 := by
  intro T l0 h
  have p0 := GR.rf T
  unfold g_X11_keepForUndo_b48 at h
  obtain ⟨g2, h⟩ := oif_some h
  obtain ⟨n3, en3, h⟩ := obind_some h
  obtain ⟨g4, h⟩ := oif_some h
  obtain ⟨T5, eT5, h⟩ := elet_some h
  have p1 : GR T T5 := GR.tr p0 (by rw [eT5]; exact gr_sp sp_uI)
  rw [← osome1 h]
  exact p1
set_option maxHeartbeats 4000000 in
set_option maxRecDepth 100000 in
theorem sr_X11_keepForUndo_b29 {T1 : AT} : ∀ (T : AT) (l0 : Nat), g_X11_keepForUndo_b29 T l0 = some T1 → GR T T1 := by
  intro T l0 h
  have p0 := GR.rf T
  unfold g_X11_keepForUndo_b29 at h
  obtain ⟨g2, h⟩ := oif_some h
  obtain ⟨v3, -, h⟩ := elet_some h
  rcases oif_or h with ⟨c4, h⟩ | ⟨c4, h⟩
  · have h := h
    exact GR.tr p0 (sr_X11_keepForUndo_b48 _ _ h)
  · have h := h
    obtain ⟨g5, h⟩ := oif_some h
    obtain ⟨v6, -, h⟩ := elet_some h
    obtain ⟨v7, -, h⟩ := elet_some h
    obtain ⟨g8, h⟩ := oif_some h
    obtain ⟨T9, eT9, h⟩ := elet_some h
    have p1 : GR T T9 := GR.tr p0 (by rw [eT9]; exact gr_sp sp_uI)
    exact GR.tr p1 (sr_X11_keepForUndo_b48 _ _ h)
set_option maxHeartbeats 4000000 in
set_option maxRecDepth 100000 in
theorem sr_X11_keepForUndo {T : AT} {o : Nat} {T1 : AT} (h : g_X11_keepForUndo T o = some T1) : GR T T1 := by
  have p0 := GR.rf T
  unfold g_X11_keepForUndo at h
  obtain ⟨g2, h⟩ := oif_some h
  obtain ⟨v3, -, h⟩ := elet_some h
  obtain ⟨v4, -, h⟩ := elet_some h
  obtain ⟨v5, -, h⟩ := elet_some h
  obtain ⟨g6, h⟩ := oif_some h
  obtain ⟨T7, eT7, h⟩ := elet_some h
  have p1 : GR T T7 := GR.tr p0 (by rw [eT7]; exact gr_sp sp_uI)
  obtain ⟨g8, h⟩ := oif_some h
  obtain ⟨n9, en9, h⟩ := obind_some h
  obtain ⟨g10, h⟩ := oif_some h
  obtain ⟨v11, -, h⟩ := elet_some h
  obtain ⟨g12, h⟩ := oif_some h
  obtain ⟨g13, h⟩ := oif_some h
  obtain ⟨n14, en14, h⟩ := obind_some h
  obtain ⟨g15, h⟩ := oif_some h
  obtain ⟨n16, en16, h⟩ := obind_some h
  obtain ⟨g17, h⟩ := oif_some h
  obtain ⟨T18, eT18, h⟩ := obind_some h
  have p2 : GR T T18 := GR.tr p1 (sr_X8_copyFrom eT18)
  exact GR.tr p2 (sr_X11_keepForUndo_b29 _ _ h)
set_option maxHeartbeats 4000000 in
set_option maxRecDepth 100000 in
theorem sr_X11_undo_b31 {e1 : Nat} {r1 : Int32} {T1 : AT} : ∀ (T : AT) (l0 : Nat), g_X11_undo_b31 T l0 = some (e1, r1, T1) → GR T T1 := by
  intro T l0 h
  have p0 := GR.rf T
  unfold g_X11_undo_b31 at h
  obtain ⟨g2, h⟩ := oif_some h
  obtain ⟨v3, -, h⟩ := elet_some h
  obtain ⟨v4, -, h⟩ := elet_some h
  obtain ⟨v5, -, h⟩ := elet_some h
  obtain ⟨v6, -, h⟩ := elet_some h
  obtain ⟨g7, h⟩ := oif_some h
  obtain ⟨T8, eT8, h⟩ := elet_some h
  have p1 : GR T T8 := GR.tr p0 (by rw [eT8]; exact gr_sp sp_uI)
  obtain ⟨g9, h⟩ := oif_some h
  obtain ⟨v10, -, h⟩ := elet_some h
  obtain ⟨v11, -, h⟩ := elet_some h
  obtain ⟨g12, h⟩ := oif_some h
  obtain ⟨T13, eT13, h⟩ := elet_some h
  have p2 : GR T T13 := GR.tr p1 (by rw [eT13]; exact gr_sp sp_uI)
  obtain ⟨g14, h⟩ := oif_some h
  obtain ⟨n15, en15, h⟩ := obind_some h
  obtain ⟨g16, h⟩ := oif_some h
  obtain ⟨T17, eT17, h⟩ := elet_some h
  have p3 : GR T T17 := GR.tr p2 (by rw [eT17]; exact gr_sp sp_uI)
  obtain ⟨g18, h⟩ := oif_some h
  obtain ⟨v19, -, h⟩ := elet_some h
  rw [← (osome3 h).2.2]
  exact p3
set_option maxHeartbeats 4000000 in
set_option maxRecDepth 100000 in
theorem sr_X11_undo {T : AT} {o : Nat} {e1 : Nat} {r1 : Int32} {T1 : AT} (h : g_X11_undo T o = some (e1, r1, T1)) : GR T T1 := by
  have p0 := GR.rf T
  unfold g_X11_undo at h
  obtain ⟨g2, h⟩ := oif_some h
  obtain ⟨v3, -, h⟩ := elet_some h
  rcases oif_or h with ⟨c4, h⟩ | ⟨c4, h⟩
  · have h := h
    rw [← (osome3 h).2.2]
    exact p0
  · have h := h
    obtain ⟨g5, h⟩ := oif_some h
    obtain ⟨n6, en6, h⟩ := obind_some h
    obtain ⟨g7, h⟩ := oif_some h
    obtain ⟨n8, en8, h⟩ := obind_some h
    obtain ⟨g9, h⟩ := oif_some h
    obtain ⟨v10, -, h⟩ := elet_some h
    obtain ⟨g11, h⟩ := oif_some h
    obtain ⟨g12, h⟩ := oif_some h
    obtain ⟨n13, en13, h⟩ := obind_some h
    obtain ⟨g14, h⟩ := oif_some h
    obtain ⟨T15, eT15, h⟩ := obind_some h
    have p1 : GR T T15 := GR.tr p0 (sr_X8_copyFrom eT15)
    exact GR.tr p1 (sr_X11_undo_b31 _ _ h)
end
