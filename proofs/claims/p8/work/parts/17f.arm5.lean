theorem dL_law_1558 : decode cL_law 1558 = .ok (.aload_n 1, 1) := de_43 (lb_97 (j := 6) (b := 43) rfl)
theorem dL_law_1559 : decode cL_law 1559 = .ok (.aload_n 0, 1) := de_42 (lb_97 (j := 7) (b := 42) rfl)
theorem dL_law_1560 : decode cL_law 1560 = .ok (.iload 5, 2) := de_21 (lb_97 (j := 8) (b := 21) rfl) (lb_97 (j := 9) (b := 5) rfl) rfl
theorem dL_law_1562 : decode cL_law 1562 = .ok (.iconst 1, 1) := de_4 (lb_97 (j := 10) (b := 4) rfl)
theorem dL_law_1563 : decode cL_law 1563 = .ok (.iadd, 1) := de_96 (lb_97 (j := 11) (b := 96) rfl)
theorem dL_law_1564 : decode cL_law 1564 = .ok (.iaload, 1) := de_46 (lb_97 (j := 12) (b := 46) rfl)
theorem dL_law_1565 : decode cL_law 1565 = .ok (.aload_n 0, 1) := de_42 (lb_97 (j := 13) (b := 42) rfl)
theorem dL_law_1566 : decode cL_law 1566 = .ok (.iload 5, 2) := de_21 (lb_97 (j := 14) (b := 21) rfl) (lb_97 (j := 15) (b := 5) rfl) rfl
theorem dL_law_1568 : decode cL_law 1568 = .ok (.iconst 2, 1) := de_5 (lb_98 (j := 0) (b := 5) rfl)
theorem dL_law_1569 : decode cL_law 1569 = .ok (.iadd, 1) := de_96 (lb_98 (j := 1) (b := 96) rfl)
theorem dL_law_1570 : decode cL_law 1570 = .ok (.iaload, 1) := de_46 (lb_98 (j := 2) (b := 46) rfl)
theorem dL_law_1571 : decode cL_law 1571 = .ok (.aload_n 3, 1) := de_45 (lb_98 (j := 3) (b := 45) rfl)
theorem dL_law_1572 : decode cL_law 1572 = .ok (.invokestatic 333, 3) := de_184 (lb_98 (j := 4) (b := 184) rfl) (lb_98 (j := 5) (b := 1) rfl) (lb_98 (j := 6) (b := 77) rfl) rfl
theorem dL_law_1575 : decode cL_law 1575 = .ok (.istore 6, 2) := de_54 (lb_98 (j := 7) (b := 54) rfl) (lb_98 (j := 8) (b := 6) rfl) rfl
theorem dL_law_1577 : decode cL_law 1577 = .ok (.aload_n 2, 1) := de_44 (lb_98 (j := 9) (b := 44) rfl)
theorem dL_law_1578 : decode cL_law 1578 = .ok (.aload_n 0, 1) := de_42 (lb_98 (j := 10) (b := 42) rfl)
theorem dL_law_1579 : decode cL_law 1579 = .ok (.iload 5, 2) := de_21 (lb_98 (j := 11) (b := 21) rfl) (lb_98 (j := 12) (b := 5) rfl) rfl
theorem dL_law_1581 : decode cL_law 1581 = .ok (.iconst 1, 1) := de_4 (lb_98 (j := 13) (b := 4) rfl)
theorem dL_law_1582 : decode cL_law 1582 = .ok (.iadd, 1) := de_96 (lb_98 (j := 14) (b := 96) rfl)
theorem dL_law_1583 : decode cL_law 1583 = .ok (.iaload, 1) := de_46 (lb_98 (j := 15) (b := 46) rfl)
theorem dL_law_1584 : decode cL_law 1584 = .ok (.aload_n 0, 1) := de_42 (lb_99 (j := 0) (b := 42) rfl)
theorem dL_law_1585 : decode cL_law 1585 = .ok (.iload 5, 2) := de_21 (lb_99 (j := 1) (b := 21) rfl) (lb_99 (j := 2) (b := 5) rfl) rfl
theorem dL_law_1587 : decode cL_law 1587 = .ok (.iconst 2, 1) := de_5 (lb_99 (j := 3) (b := 5) rfl)
theorem dL_law_1588 : decode cL_law 1588 = .ok (.iadd, 1) := de_96 (lb_99 (j := 4) (b := 96) rfl)
theorem dL_law_1589 : decode cL_law 1589 = .ok (.iaload, 1) := de_46 (lb_99 (j := 5) (b := 46) rfl)
theorem dL_law_1590 : decode cL_law 1590 = .ok (.invokevirtual 335, 3) := de_182 (lb_99 (j := 6) (b := 182) rfl) (lb_99 (j := 7) (b := 1) rfl) (lb_99 (j := 8) (b := 79) rfl) rfl
theorem dL_law_1593 : decode cL_law 1593 = .ok (.istore 7, 2) := de_54 (lb_99 (j := 9) (b := 54) rfl) (lb_99 (j := 10) (b := 7) rfl) rfl
theorem dL_law_1595 : decode cL_law 1595 = .ok (.goto 844, 3) := de_167 (lb_99 (j := 11) (b := 167) rfl) (lb_99 (j := 12) (b := 3) rfl) (lb_99 (j := 13) (b := 76) rfl) (by decide +kernel)
theorem dL_law_1598 : decode cL_law 1598 = .ok (.aload_n 1, 1) := de_43 (lb_99 (j := 14) (b := 43) rfl)
theorem dL_law_1599 : decode cL_law 1599 = .ok (.aload_n 0, 1) := de_42 (lb_99 (j := 15) (b := 42) rfl)
theorem dL_law_1600 : decode cL_law 1600 = .ok (.iload 5, 2) := de_21 (lb_100 (j := 0) (b := 21) rfl) (lb_100 (j := 1) (b := 5) rfl) rfl
theorem dL_law_1602 : decode cL_law 1602 = .ok (.iconst 1, 1) := de_4 (lb_100 (j := 2) (b := 4) rfl)
theorem dL_law_1603 : decode cL_law 1603 = .ok (.iadd, 1) := de_96 (lb_100 (j := 3) (b := 96) rfl)
theorem dL_law_1604 : decode cL_law 1604 = .ok (.iaload, 1) := de_46 (lb_100 (j := 4) (b := 46) rfl)
theorem dL_law_1605 : decode cL_law 1605 = .ok (.aload_n 0, 1) := de_42 (lb_100 (j := 5) (b := 42) rfl)
theorem dL_law_1606 : decode cL_law 1606 = .ok (.iload 5, 2) := de_21 (lb_100 (j := 6) (b := 21) rfl) (lb_100 (j := 7) (b := 5) rfl) rfl
theorem dL_law_1608 : decode cL_law 1608 = .ok (.iconst 2, 1) := de_5 (lb_100 (j := 8) (b := 5) rfl)
theorem dL_law_1609 : decode cL_law 1609 = .ok (.iadd, 1) := de_96 (lb_100 (j := 9) (b := 96) rfl)
theorem dL_law_1610 : decode cL_law 1610 = .ok (.iaload, 1) := de_46 (lb_100 (j := 10) (b := 46) rfl)
theorem dL_law_1611 : decode cL_law 1611 = .ok (.aload_n 0, 1) := de_42 (lb_100 (j := 11) (b := 42) rfl)
theorem dL_law_1612 : decode cL_law 1612 = .ok (.iload 5, 2) := de_21 (lb_100 (j := 12) (b := 21) rfl) (lb_100 (j := 13) (b := 5) rfl) rfl
theorem dL_law_1614 : decode cL_law 1614 = .ok (.iconst 3, 1) := de_6 (lb_100 (j := 14) (b := 6) rfl)
theorem dL_law_1615 : decode cL_law 1615 = .ok (.iadd, 1) := de_96 (lb_100 (j := 15) (b := 96) rfl)
theorem dL_law_1616 : decode cL_law 1616 = .ok (.iaload, 1) := de_46 (lb_101 (j := 0) (b := 46) rfl)
theorem dL_law_1617 : decode cL_law 1617 = .ok (.aload_n 3, 1) := de_45 (lb_101 (j := 1) (b := 45) rfl)
theorem dL_law_1618 : decode cL_law 1618 = .ok (.invokestatic 336, 3) := de_184 (lb_101 (j := 2) (b := 184) rfl) (lb_101 (j := 3) (b := 1) rfl) (lb_101 (j := 4) (b := 80) rfl) rfl
theorem dL_law_1621 : decode cL_law 1621 = .ok (.istore 6, 2) := de_54 (lb_101 (j := 5) (b := 54) rfl) (lb_101 (j := 6) (b := 6) rfl) rfl
theorem dL_law_1623 : decode cL_law 1623 = .ok (.aload_n 2, 1) := de_44 (lb_101 (j := 7) (b := 44) rfl)
theorem dL_law_1624 : decode cL_law 1624 = .ok (.aload_n 0, 1) := de_42 (lb_101 (j := 8) (b := 42) rfl)
theorem dL_law_1625 : decode cL_law 1625 = .ok (.iload 5, 2) := de_21 (lb_101 (j := 9) (b := 21) rfl) (lb_101 (j := 10) (b := 5) rfl) rfl
theorem dL_law_1627 : decode cL_law 1627 = .ok (.iconst 1, 1) := de_4 (lb_101 (j := 11) (b := 4) rfl)
theorem dL_law_1628 : decode cL_law 1628 = .ok (.iadd, 1) := de_96 (lb_101 (j := 12) (b := 96) rfl)
theorem dL_law_1629 : decode cL_law 1629 = .ok (.iaload, 1) := de_46 (lb_101 (j := 13) (b := 46) rfl)
theorem dL_law_1630 : decode cL_law 1630 = .ok (.aload_n 0, 1) := de_42 (lb_101 (j := 14) (b := 42) rfl)
theorem dL_law_1631 : decode cL_law 1631 = .ok (.iload 5, 2) := de_21 (lb_101 (j := 15) (b := 21) rfl) (lb_102 (j := 0) (b := 5) rfl) rfl
theorem dL_law_1633 : decode cL_law 1633 = .ok (.iconst 2, 1) := de_5 (lb_102 (j := 1) (b := 5) rfl)
theorem dL_law_1634 : decode cL_law 1634 = .ok (.iadd, 1) := de_96 (lb_102 (j := 2) (b := 96) rfl)
theorem dL_law_1635 : decode cL_law 1635 = .ok (.iaload, 1) := de_46 (lb_102 (j := 3) (b := 46) rfl)
theorem dL_law_1636 : decode cL_law 1636 = .ok (.aload_n 0, 1) := de_42 (lb_102 (j := 4) (b := 42) rfl)
theorem dL_law_1637 : decode cL_law 1637 = .ok (.iload 5, 2) := de_21 (lb_102 (j := 5) (b := 21) rfl) (lb_102 (j := 6) (b := 5) rfl) rfl
theorem dL_law_1639 : decode cL_law 1639 = .ok (.iconst 3, 1) := de_6 (lb_102 (j := 7) (b := 6) rfl)
theorem dL_law_1640 : decode cL_law 1640 = .ok (.iadd, 1) := de_96 (lb_102 (j := 8) (b := 96) rfl)
theorem dL_law_1641 : decode cL_law 1641 = .ok (.iaload, 1) := de_46 (lb_102 (j := 9) (b := 46) rfl)
theorem dL_law_1642 : decode cL_law 1642 = .ok (.invokevirtual 338, 3) := de_182 (lb_102 (j := 10) (b := 182) rfl) (lb_102 (j := 11) (b := 1) rfl) (lb_102 (j := 12) (b := 82) rfl) rfl
theorem dL_law_1645 : decode cL_law 1645 = .ok (.lstore 7, 2) := de_55 (lb_102 (j := 13) (b := 55) rfl) (lb_102 (j := 14) (b := 7) rfl) rfl
theorem dL_law_1647 : decode cL_law 1647 = .ok (.goto 792, 3) := de_167 (lb_102 (j := 15) (b := 167) rfl) (lb_103 (j := 0) (b := 3) rfl) (lb_103 (j := 1) (b := 24) rfl) (by decide +kernel)
theorem dL_law_1650 : decode cL_law 1650 = .ok (.aload_n 1, 1) := de_43 (lb_103 (j := 2) (b := 43) rfl)
theorem dL_law_1651 : decode cL_law 1651 = .ok (.aload_n 0, 1) := de_42 (lb_103 (j := 3) (b := 42) rfl)
theorem dL_law_1652 : decode cL_law 1652 = .ok (.iload 5, 2) := de_21 (lb_103 (j := 4) (b := 21) rfl) (lb_103 (j := 5) (b := 5) rfl) rfl
theorem dL_law_1654 : decode cL_law 1654 = .ok (.iconst 1, 1) := de_4 (lb_103 (j := 6) (b := 4) rfl)
theorem dL_law_1655 : decode cL_law 1655 = .ok (.iadd, 1) := de_96 (lb_103 (j := 7) (b := 96) rfl)
theorem dL_law_1656 : decode cL_law 1656 = .ok (.iaload, 1) := de_46 (lb_103 (j := 8) (b := 46) rfl)
theorem dL_law_1657 : decode cL_law 1657 = .ok (.aload_n 0, 1) := de_42 (lb_103 (j := 9) (b := 42) rfl)
theorem dL_law_1658 : decode cL_law 1658 = .ok (.iload 5, 2) := de_21 (lb_103 (j := 10) (b := 21) rfl) (lb_103 (j := 11) (b := 5) rfl) rfl
theorem dL_law_1660 : decode cL_law 1660 = .ok (.iconst 2, 1) := de_5 (lb_103 (j := 12) (b := 5) rfl)
theorem dL_law_1661 : decode cL_law 1661 = .ok (.iadd, 1) := de_96 (lb_103 (j := 13) (b := 96) rfl)
theorem dL_law_1662 : decode cL_law 1662 = .ok (.iaload, 1) := de_46 (lb_103 (j := 14) (b := 46) rfl)
theorem dL_law_1663 : decode cL_law 1663 = .ok (.aload_n 0, 1) := de_42 (lb_103 (j := 15) (b := 42) rfl)
theorem dL_law_1664 : decode cL_law 1664 = .ok (.iload 5, 2) := de_21 (lb_104 (j := 0) (b := 21) rfl) (lb_104 (j := 1) (b := 5) rfl) rfl
theorem dL_law_1666 : decode cL_law 1666 = .ok (.iconst 3, 1) := de_6 (lb_104 (j := 2) (b := 6) rfl)
theorem dL_law_1667 : decode cL_law 1667 = .ok (.iadd, 1) := de_96 (lb_104 (j := 3) (b := 96) rfl)
theorem dL_law_1668 : decode cL_law 1668 = .ok (.iaload, 1) := de_46 (lb_104 (j := 4) (b := 46) rfl)
theorem dL_law_1669 : decode cL_law 1669 = .ok (.aload_n 3, 1) := de_45 (lb_104 (j := 5) (b := 45) rfl)
theorem dL_law_1670 : decode cL_law 1670 = .ok (.invokestatic 339, 3) := de_184 (lb_104 (j := 6) (b := 184) rfl) (lb_104 (j := 7) (b := 1) rfl) (lb_104 (j := 8) (b := 83) rfl) rfl
theorem dL_law_1673 : decode cL_law 1673 = .ok (.istore 6, 2) := de_54 (lb_104 (j := 9) (b := 54) rfl) (lb_104 (j := 10) (b := 6) rfl) rfl
theorem dL_law_1675 : decode cL_law 1675 = .ok (.aload_n 2, 1) := de_44 (lb_104 (j := 11) (b := 44) rfl)
theorem dL_law_1676 : decode cL_law 1676 = .ok (.aload_n 0, 1) := de_42 (lb_104 (j := 12) (b := 42) rfl)
theorem dL_law_1677 : decode cL_law 1677 = .ok (.iload 5, 2) := de_21 (lb_104 (j := 13) (b := 21) rfl) (lb_104 (j := 14) (b := 5) rfl) rfl
theorem dL_law_1679 : decode cL_law 1679 = .ok (.iconst 1, 1) := de_4 (lb_104 (j := 15) (b := 4) rfl)
theorem dL_law_1680 : decode cL_law 1680 = .ok (.iadd, 1) := de_96 (lb_105 (j := 0) (b := 96) rfl)
theorem dL_law_1681 : decode cL_law 1681 = .ok (.iaload, 1) := de_46 (lb_105 (j := 1) (b := 46) rfl)
theorem dL_law_1682 : decode cL_law 1682 = .ok (.aload_n 0, 1) := de_42 (lb_105 (j := 2) (b := 42) rfl)
theorem dL_law_1683 : decode cL_law 1683 = .ok (.iload 5, 2) := de_21 (lb_105 (j := 3) (b := 21) rfl) (lb_105 (j := 4) (b := 5) rfl) rfl
theorem dL_law_1685 : decode cL_law 1685 = .ok (.iconst 2, 1) := de_5 (lb_105 (j := 5) (b := 5) rfl)
theorem dL_law_1686 : decode cL_law 1686 = .ok (.iadd, 1) := de_96 (lb_105 (j := 6) (b := 96) rfl)
theorem dL_law_1687 : decode cL_law 1687 = .ok (.iaload, 1) := de_46 (lb_105 (j := 7) (b := 46) rfl)
theorem dL_law_1688 : decode cL_law 1688 = .ok (.aload_n 0, 1) := de_42 (lb_105 (j := 8) (b := 42) rfl)
theorem dL_law_1689 : decode cL_law 1689 = .ok (.iload 5, 2) := de_21 (lb_105 (j := 9) (b := 21) rfl) (lb_105 (j := 10) (b := 5) rfl) rfl
theorem dL_law_1691 : decode cL_law 1691 = .ok (.iconst 3, 1) := de_6 (lb_105 (j := 11) (b := 6) rfl)
theorem dL_law_1692 : decode cL_law 1692 = .ok (.iadd, 1) := de_96 (lb_105 (j := 12) (b := 96) rfl)
theorem dL_law_1693 : decode cL_law 1693 = .ok (.iaload, 1) := de_46 (lb_105 (j := 13) (b := 46) rfl)
theorem dL_law_1694 : decode cL_law 1694 = .ok (.invokevirtual 341, 3) := de_182 (lb_105 (j := 14) (b := 182) rfl) (lb_105 (j := 15) (b := 1) rfl) (lb_106 (j := 0) (b := 85) rfl) rfl
theorem dL_law_1697 : decode cL_law 1697 = .ok (.istore 7, 2) := de_54 (lb_106 (j := 1) (b := 54) rfl) (lb_106 (j := 2) (b := 7) rfl) rfl
theorem dL_law_1699 : decode cL_law 1699 = .ok (.goto 740, 3) := de_167 (lb_106 (j := 3) (b := 167) rfl) (lb_106 (j := 4) (b := 2) rfl) (lb_106 (j := 5) (b := 228) rfl) (by decide +kernel)
theorem dL_law_1702 : decode cL_law 1702 = .ok (.aload_n 1, 1) := de_43 (lb_106 (j := 6) (b := 43) rfl)
theorem dL_law_1703 : decode cL_law 1703 = .ok (.aload_n 0, 1) := de_42 (lb_106 (j := 7) (b := 42) rfl)
theorem dL_law_1704 : decode cL_law 1704 = .ok (.iload 5, 2) := de_21 (lb_106 (j := 8) (b := 21) rfl) (lb_106 (j := 9) (b := 5) rfl) rfl
theorem dL_law_1706 : decode cL_law 1706 = .ok (.iconst 1, 1) := de_4 (lb_106 (j := 10) (b := 4) rfl)
theorem dL_law_1707 : decode cL_law 1707 = .ok (.iadd, 1) := de_96 (lb_106 (j := 11) (b := 96) rfl)
theorem dL_law_1708 : decode cL_law 1708 = .ok (.iaload, 1) := de_46 (lb_106 (j := 12) (b := 46) rfl)
theorem dL_law_1709 : decode cL_law 1709 = .ok (.aload_n 0, 1) := de_42 (lb_106 (j := 13) (b := 42) rfl)
theorem dL_law_1710 : decode cL_law 1710 = .ok (.iload 5, 2) := de_21 (lb_106 (j := 14) (b := 21) rfl) (lb_106 (j := 15) (b := 5) rfl) rfl
theorem dL_law_1712 : decode cL_law 1712 = .ok (.iconst 2, 1) := de_5 (lb_107 (j := 0) (b := 5) rfl)
theorem dL_law_1713 : decode cL_law 1713 = .ok (.iadd, 1) := de_96 (lb_107 (j := 1) (b := 96) rfl)
theorem dL_law_1714 : decode cL_law 1714 = .ok (.iaload, 1) := de_46 (lb_107 (j := 2) (b := 46) rfl)
theorem dL_law_1715 : decode cL_law 1715 = .ok (.aload_n 0, 1) := de_42 (lb_107 (j := 3) (b := 42) rfl)
theorem dL_law_1716 : decode cL_law 1716 = .ok (.iload 5, 2) := de_21 (lb_107 (j := 4) (b := 21) rfl) (lb_107 (j := 5) (b := 5) rfl) rfl
theorem dL_law_1718 : decode cL_law 1718 = .ok (.iconst 3, 1) := de_6 (lb_107 (j := 6) (b := 6) rfl)
theorem dL_law_1719 : decode cL_law 1719 = .ok (.iadd, 1) := de_96 (lb_107 (j := 7) (b := 96) rfl)
theorem dL_law_1720 : decode cL_law 1720 = .ok (.iaload, 1) := de_46 (lb_107 (j := 8) (b := 46) rfl)
theorem dL_law_1721 : decode cL_law 1721 = .ok (.aload_n 3, 1) := de_45 (lb_107 (j := 9) (b := 45) rfl)
theorem dL_law_1722 : decode cL_law 1722 = .ok (.invokestatic 342, 3) := de_184 (lb_107 (j := 10) (b := 184) rfl) (lb_107 (j := 11) (b := 1) rfl) (lb_107 (j := 12) (b := 86) rfl) rfl
theorem dL_law_1725 : decode cL_law 1725 = .ok (.istore 6, 2) := de_54 (lb_107 (j := 13) (b := 54) rfl) (lb_107 (j := 14) (b := 6) rfl) rfl
theorem dL_law_1727 : decode cL_law 1727 = .ok (.aload_n 2, 1) := de_44 (lb_107 (j := 15) (b := 44) rfl)
theorem dL_law_1728 : decode cL_law 1728 = .ok (.aload_n 0, 1) := de_42 (lb_108 (j := 0) (b := 42) rfl)
theorem dL_law_1729 : decode cL_law 1729 = .ok (.iload 5, 2) := de_21 (lb_108 (j := 1) (b := 21) rfl) (lb_108 (j := 2) (b := 5) rfl) rfl
theorem dL_law_1731 : decode cL_law 1731 = .ok (.iconst 1, 1) := de_4 (lb_108 (j := 3) (b := 4) rfl)
theorem dL_law_1732 : decode cL_law 1732 = .ok (.iadd, 1) := de_96 (lb_108 (j := 4) (b := 96) rfl)
theorem dL_law_1733 : decode cL_law 1733 = .ok (.iaload, 1) := de_46 (lb_108 (j := 5) (b := 46) rfl)
theorem dL_law_1734 : decode cL_law 1734 = .ok (.aload_n 0, 1) := de_42 (lb_108 (j := 6) (b := 42) rfl)
theorem dL_law_1735 : decode cL_law 1735 = .ok (.iload 5, 2) := de_21 (lb_108 (j := 7) (b := 21) rfl) (lb_108 (j := 8) (b := 5) rfl) rfl
theorem dL_law_1737 : decode cL_law 1737 = .ok (.iconst 2, 1) := de_5 (lb_108 (j := 9) (b := 5) rfl)
theorem dL_law_1738 : decode cL_law 1738 = .ok (.iadd, 1) := de_96 (lb_108 (j := 10) (b := 96) rfl)
theorem dL_law_1739 : decode cL_law 1739 = .ok (.iaload, 1) := de_46 (lb_108 (j := 11) (b := 46) rfl)
theorem dL_law_1740 : decode cL_law 1740 = .ok (.aload_n 0, 1) := de_42 (lb_108 (j := 12) (b := 42) rfl)
theorem dL_law_1741 : decode cL_law 1741 = .ok (.iload 5, 2) := de_21 (lb_108 (j := 13) (b := 21) rfl) (lb_108 (j := 14) (b := 5) rfl) rfl
theorem dL_law_1743 : decode cL_law 1743 = .ok (.iconst 3, 1) := de_6 (lb_108 (j := 15) (b := 6) rfl)
theorem dL_law_1744 : decode cL_law 1744 = .ok (.iadd, 1) := de_96 (lb_109 (j := 0) (b := 96) rfl)
theorem dL_law_1745 : decode cL_law 1745 = .ok (.iaload, 1) := de_46 (lb_109 (j := 1) (b := 46) rfl)
theorem dL_law_1746 : decode cL_law 1746 = .ok (.invokevirtual 344, 3) := de_182 (lb_109 (j := 2) (b := 182) rfl) (lb_109 (j := 3) (b := 1) rfl) (lb_109 (j := 4) (b := 88) rfl) rfl
theorem dL_law_1749 : decode cL_law 1749 = .ok (.lstore 7, 2) := de_55 (lb_109 (j := 5) (b := 55) rfl) (lb_109 (j := 6) (b := 7) rfl) rfl
theorem dL_law_1751 : decode cL_law 1751 = .ok (.goto 688, 3) := de_167 (lb_109 (j := 7) (b := 167) rfl) (lb_109 (j := 8) (b := 2) rfl) (lb_109 (j := 9) (b := 176) rfl) (by decide +kernel)
theorem dL_law_1754 : decode cL_law 1754 = .ok (.aload_n 1, 1) := de_43 (lb_109 (j := 10) (b := 43) rfl)
theorem dL_law_1755 : decode cL_law 1755 = .ok (.aload_n 0, 1) := de_42 (lb_109 (j := 11) (b := 42) rfl)
theorem dL_law_1756 : decode cL_law 1756 = .ok (.iload 5, 2) := de_21 (lb_109 (j := 12) (b := 21) rfl) (lb_109 (j := 13) (b := 5) rfl) rfl
theorem dL_law_1758 : decode cL_law 1758 = .ok (.iconst 1, 1) := de_4 (lb_109 (j := 14) (b := 4) rfl)
theorem dL_law_1759 : decode cL_law 1759 = .ok (.iadd, 1) := de_96 (lb_109 (j := 15) (b := 96) rfl)
theorem dL_law_1760 : decode cL_law 1760 = .ok (.iaload, 1) := de_46 (lb_110 (j := 0) (b := 46) rfl)
theorem dL_law_1761 : decode cL_law 1761 = .ok (.aload_n 0, 1) := de_42 (lb_110 (j := 1) (b := 42) rfl)
theorem dL_law_1762 : decode cL_law 1762 = .ok (.iload 5, 2) := de_21 (lb_110 (j := 2) (b := 21) rfl) (lb_110 (j := 3) (b := 5) rfl) rfl
theorem dL_law_1764 : decode cL_law 1764 = .ok (.iconst 2, 1) := de_5 (lb_110 (j := 4) (b := 5) rfl)
theorem dL_law_1765 : decode cL_law 1765 = .ok (.iadd, 1) := de_96 (lb_110 (j := 5) (b := 96) rfl)
theorem dL_law_1766 : decode cL_law 1766 = .ok (.iaload, 1) := de_46 (lb_110 (j := 6) (b := 46) rfl)
theorem dL_law_1767 : decode cL_law 1767 = .ok (.aload_n 0, 1) := de_42 (lb_110 (j := 7) (b := 42) rfl)
theorem dL_law_1768 : decode cL_law 1768 = .ok (.iload 5, 2) := de_21 (lb_110 (j := 8) (b := 21) rfl) (lb_110 (j := 9) (b := 5) rfl) rfl
theorem dL_law_1770 : decode cL_law 1770 = .ok (.iconst 3, 1) := de_6 (lb_110 (j := 10) (b := 6) rfl)
theorem dL_law_1771 : decode cL_law 1771 = .ok (.iadd, 1) := de_96 (lb_110 (j := 11) (b := 96) rfl)
theorem dL_law_1772 : decode cL_law 1772 = .ok (.iaload, 1) := de_46 (lb_110 (j := 12) (b := 46) rfl)
theorem dL_law_1773 : decode cL_law 1773 = .ok (.aload_n 3, 1) := de_45 (lb_110 (j := 13) (b := 45) rfl)
theorem dL_law_1774 : decode cL_law 1774 = .ok (.invokestatic 345, 3) := de_184 (lb_110 (j := 14) (b := 184) rfl) (lb_110 (j := 15) (b := 1) rfl) (lb_111 (j := 0) (b := 89) rfl) rfl
theorem dL_law_1777 : decode cL_law 1777 = .ok (.istore 6, 2) := de_54 (lb_111 (j := 1) (b := 54) rfl) (lb_111 (j := 2) (b := 6) rfl) rfl
theorem dL_law_1779 : decode cL_law 1779 = .ok (.aload_n 2, 1) := de_44 (lb_111 (j := 3) (b := 44) rfl)
theorem dL_law_1780 : decode cL_law 1780 = .ok (.aload_n 0, 1) := de_42 (lb_111 (j := 4) (b := 42) rfl)
theorem dL_law_1781 : decode cL_law 1781 = .ok (.iload 5, 2) := de_21 (lb_111 (j := 5) (b := 21) rfl) (lb_111 (j := 6) (b := 5) rfl) rfl
theorem dL_law_1783 : decode cL_law 1783 = .ok (.iconst 1, 1) := de_4 (lb_111 (j := 7) (b := 4) rfl)
theorem dL_law_1784 : decode cL_law 1784 = .ok (.iadd, 1) := de_96 (lb_111 (j := 8) (b := 96) rfl)
theorem dL_law_1785 : decode cL_law 1785 = .ok (.iaload, 1) := de_46 (lb_111 (j := 9) (b := 46) rfl)
theorem dL_law_1786 : decode cL_law 1786 = .ok (.aload_n 0, 1) := de_42 (lb_111 (j := 10) (b := 42) rfl)
theorem dL_law_1787 : decode cL_law 1787 = .ok (.iload 5, 2) := de_21 (lb_111 (j := 11) (b := 21) rfl) (lb_111 (j := 12) (b := 5) rfl) rfl
theorem dL_law_1789 : decode cL_law 1789 = .ok (.iconst 2, 1) := de_5 (lb_111 (j := 13) (b := 5) rfl)
theorem dL_law_1790 : decode cL_law 1790 = .ok (.iadd, 1) := de_96 (lb_111 (j := 14) (b := 96) rfl)
theorem dL_law_1791 : decode cL_law 1791 = .ok (.iaload, 1) := de_46 (lb_111 (j := 15) (b := 46) rfl)
theorem dL_law_1792 : decode cL_law 1792 = .ok (.aload_n 0, 1) := de_42 (lb_112 (j := 0) (b := 42) rfl)
theorem dL_law_1793 : decode cL_law 1793 = .ok (.iload 5, 2) := de_21 (lb_112 (j := 1) (b := 21) rfl) (lb_112 (j := 2) (b := 5) rfl) rfl
theorem dL_law_1795 : decode cL_law 1795 = .ok (.iconst 3, 1) := de_6 (lb_112 (j := 3) (b := 6) rfl)
theorem dL_law_1796 : decode cL_law 1796 = .ok (.iadd, 1) := de_96 (lb_112 (j := 4) (b := 96) rfl)
theorem dL_law_1797 : decode cL_law 1797 = .ok (.iaload, 1) := de_46 (lb_112 (j := 5) (b := 46) rfl)
theorem dL_law_1798 : decode cL_law 1798 = .ok (.invokevirtual 347, 3) := de_182 (lb_112 (j := 6) (b := 182) rfl) (lb_112 (j := 7) (b := 1) rfl) (lb_112 (j := 8) (b := 91) rfl) rfl
theorem dL_law_1801 : decode cL_law 1801 = .ok (.istore 7, 2) := de_54 (lb_112 (j := 9) (b := 54) rfl) (lb_112 (j := 10) (b := 7) rfl) rfl
theorem dL_law_1803 : decode cL_law 1803 = .ok (.goto 636, 3) := de_167 (lb_112 (j := 11) (b := 167) rfl) (lb_112 (j := 12) (b := 2) rfl) (lb_112 (j := 13) (b := 124) rfl) (by decide +kernel)
theorem dL_law_1806 : decode cL_law 1806 = .ok (.aload_n 1, 1) := de_43 (lb_112 (j := 14) (b := 43) rfl)
theorem dL_law_1807 : decode cL_law 1807 = .ok (.aload_n 0, 1) := de_42 (lb_112 (j := 15) (b := 42) rfl)
theorem dL_law_1808 : decode cL_law 1808 = .ok (.iload 5, 2) := de_21 (lb_113 (j := 0) (b := 21) rfl) (lb_113 (j := 1) (b := 5) rfl) rfl
theorem dL_law_1810 : decode cL_law 1810 = .ok (.iconst 1, 1) := de_4 (lb_113 (j := 2) (b := 4) rfl)
theorem dL_law_1811 : decode cL_law 1811 = .ok (.iadd, 1) := de_96 (lb_113 (j := 3) (b := 96) rfl)
theorem dL_law_1812 : decode cL_law 1812 = .ok (.iaload, 1) := de_46 (lb_113 (j := 4) (b := 46) rfl)
theorem dL_law_1813 : decode cL_law 1813 = .ok (.aload_n 3, 1) := de_45 (lb_113 (j := 5) (b := 45) rfl)
theorem dL_law_1814 : decode cL_law 1814 = .ok (.invokestatic 348, 3) := de_184 (lb_113 (j := 6) (b := 184) rfl) (lb_113 (j := 7) (b := 1) rfl) (lb_113 (j := 8) (b := 92) rfl) rfl
theorem dL_law_1817 : decode cL_law 1817 = .ok (.istore 6, 2) := de_54 (lb_113 (j := 9) (b := 54) rfl) (lb_113 (j := 10) (b := 6) rfl) rfl
theorem dL_law_1819 : decode cL_law 1819 = .ok (.aload_n 2, 1) := de_44 (lb_113 (j := 11) (b := 44) rfl)
theorem dL_law_1820 : decode cL_law 1820 = .ok (.aload_n 0, 1) := de_42 (lb_113 (j := 12) (b := 42) rfl)
theorem dL_law_1821 : decode cL_law 1821 = .ok (.iload 5, 2) := de_21 (lb_113 (j := 13) (b := 21) rfl) (lb_113 (j := 14) (b := 5) rfl) rfl
theorem dL_law_1823 : decode cL_law 1823 = .ok (.iconst 1, 1) := de_4 (lb_113 (j := 15) (b := 4) rfl)
theorem dL_law_1824 : decode cL_law 1824 = .ok (.iadd, 1) := de_96 (lb_114 (j := 0) (b := 96) rfl)
theorem dL_law_1825 : decode cL_law 1825 = .ok (.iaload, 1) := de_46 (lb_114 (j := 1) (b := 46) rfl)
theorem dL_law_1826 : decode cL_law 1826 = .ok (.invokevirtual 350, 3) := de_182 (lb_114 (j := 2) (b := 182) rfl) (lb_114 (j := 3) (b := 1) rfl) (lb_114 (j := 4) (b := 94) rfl) rfl
theorem dL_law_1829 : decode cL_law 1829 = .ok (.lstore 7, 2) := de_55 (lb_114 (j := 5) (b := 55) rfl) (lb_114 (j := 6) (b := 7) rfl) rfl
theorem dL_law_1831 : decode cL_law 1831 = .ok (.goto 608, 3) := de_167 (lb_114 (j := 7) (b := 167) rfl) (lb_114 (j := 8) (b := 2) rfl) (lb_114 (j := 9) (b := 96) rfl) (by decide +kernel)
theorem dL_law_1834 : decode cL_law 1834 = .ok (.aload_n 1, 1) := de_43 (lb_114 (j := 10) (b := 43) rfl)
theorem dL_law_1835 : decode cL_law 1835 = .ok (.aload_n 0, 1) := de_42 (lb_114 (j := 11) (b := 42) rfl)
theorem dL_law_1836 : decode cL_law 1836 = .ok (.iload 5, 2) := de_21 (lb_114 (j := 12) (b := 21) rfl) (lb_114 (j := 13) (b := 5) rfl) rfl
theorem dL_law_1838 : decode cL_law 1838 = .ok (.iconst 1, 1) := de_4 (lb_114 (j := 14) (b := 4) rfl)
theorem dL_law_1839 : decode cL_law 1839 = .ok (.iadd, 1) := de_96 (lb_114 (j := 15) (b := 96) rfl)
theorem dL_law_1840 : decode cL_law 1840 = .ok (.iaload, 1) := de_46 (lb_115 (j := 0) (b := 46) rfl)
theorem dL_law_1841 : decode cL_law 1841 = .ok (.aload_n 3, 1) := de_45 (lb_115 (j := 1) (b := 45) rfl)
theorem dL_law_1842 : decode cL_law 1842 = .ok (.invokestatic 351, 3) := de_184 (lb_115 (j := 2) (b := 184) rfl) (lb_115 (j := 3) (b := 1) rfl) (lb_115 (j := 4) (b := 95) rfl) rfl
theorem dL_law_1845 : decode cL_law 1845 = .ok (.istore 6, 2) := de_54 (lb_115 (j := 5) (b := 54) rfl) (lb_115 (j := 6) (b := 6) rfl) rfl
theorem dL_law_1847 : decode cL_law 1847 = .ok (.aload_n 2, 1) := de_44 (lb_115 (j := 7) (b := 44) rfl)
theorem dL_law_1848 : decode cL_law 1848 = .ok (.aload_n 0, 1) := de_42 (lb_115 (j := 8) (b := 42) rfl)
theorem dL_law_1849 : decode cL_law 1849 = .ok (.iload 5, 2) := de_21 (lb_115 (j := 9) (b := 21) rfl) (lb_115 (j := 10) (b := 5) rfl) rfl
theorem dL_law_1851 : decode cL_law 1851 = .ok (.iconst 1, 1) := de_4 (lb_115 (j := 11) (b := 4) rfl)
theorem dL_law_1852 : decode cL_law 1852 = .ok (.iadd, 1) := de_96 (lb_115 (j := 12) (b := 96) rfl)
theorem dL_law_1853 : decode cL_law 1853 = .ok (.iaload, 1) := de_46 (lb_115 (j := 13) (b := 46) rfl)
theorem dL_law_1854 : decode cL_law 1854 = .ok (.invokevirtual 353, 3) := de_182 (lb_115 (j := 14) (b := 182) rfl) (lb_115 (j := 15) (b := 1) rfl) (lb_116 (j := 0) (b := 97) rfl) rfl
theorem dL_law_1857 : decode cL_law 1857 = .ok (.istore 7, 2) := de_54 (lb_116 (j := 1) (b := 54) rfl) (lb_116 (j := 2) (b := 7) rfl) rfl
theorem dL_law_1859 : decode cL_law 1859 = .ok (.goto 580, 3) := de_167 (lb_116 (j := 3) (b := 167) rfl) (lb_116 (j := 4) (b := 2) rfl) (lb_116 (j := 5) (b := 68) rfl) (by decide +kernel)
theorem dL_law_1862 : decode cL_law 1862 = .ok (.aload_n 1, 1) := de_43 (lb_116 (j := 6) (b := 43) rfl)
theorem dL_law_1863 : decode cL_law 1863 = .ok (.aload_n 3, 1) := de_45 (lb_116 (j := 7) (b := 45) rfl)
theorem dL_law_1864 : decode cL_law 1864 = .ok (.invokestatic 354, 3) := de_184 (lb_116 (j := 8) (b := 184) rfl) (lb_116 (j := 9) (b := 1) rfl) (lb_116 (j := 10) (b := 98) rfl) rfl
theorem dL_law_1867 : decode cL_law 1867 = .ok (.istore 6, 2) := de_54 (lb_116 (j := 11) (b := 54) rfl) (lb_116 (j := 12) (b := 6) rfl) rfl
theorem dL_law_1869 : decode cL_law 1869 = .ok (.aload_n 2, 1) := de_44 (lb_116 (j := 13) (b := 44) rfl)
theorem dL_law_1870 : decode cL_law 1870 = .ok (.invokevirtual 356, 3) := de_182 (lb_116 (j := 14) (b := 182) rfl) (lb_116 (j := 15) (b := 1) rfl) (lb_117 (j := 0) (b := 100) rfl) rfl
theorem dL_law_1873 : decode cL_law 1873 = .ok (.istore 7, 2) := de_54 (lb_117 (j := 1) (b := 54) rfl) (lb_117 (j := 2) (b := 7) rfl) rfl
theorem dL_law_1875 : decode cL_law 1875 = .ok (.goto 564, 3) := de_167 (lb_117 (j := 3) (b := 167) rfl) (lb_117 (j := 4) (b := 2) rfl) (lb_117 (j := 5) (b := 52) rfl) (by decide +kernel)
set_option maxHeartbeats 4000000 in
set_option maxRecDepth 100000 in
theorem y_a40 {p : Program} {e : Env} {s : State} {m : MethodId} {below : List Frame} {meth : Method} {c : Code} (l : Launch) (hst : l.stackTraces = false) {b L : Nat} {xs : Nat → Int32} (hx : p.tables.exec = Jvm.exec) (hb : c.code = code) (hml : c.maxLocals = 9) (hown : s.vm.findClass RL = some m.cls) (hts : ∀ w ∈ lw_tbl, w.before #[Value.ref b] s = true) (hX0 : va_X b L xs s s.heap) (hbl : b < s.heap.size) (hX : xT (fun q => s.heap.size ≤ q) s) (hN : nC s) (hTS : sAll s.heap.size s) {D : va_G} {cI cJ cZ cMic cSrc cSt cAI cAJ cD : ClassId} (hK : va_K D vwCl (CT cI cJ cZ cMic cSrc cSt cAI cAJ ++ [(cD, .double)]) s) {Q : State → Prop} {i j : Nat} (hi : i + 6 ≤ L) (hL : L ≤ 3072) (hj : j < 512) {aj ae : Nat} {ad am : Nat → Nat} {T : AT} {Sm : MS} {f : Nat → Int64} {g : Nat → UInt64} {ls : Array Slot} {H : Heap} {locs : List Loc} (hV : IV aR0 1586 aK1 aK2 T) (hrc : RC T) (hJ : JJ Sm) (G : gL cI cJ cZ cMic cSrc cSt cAI cAJ D ad (fun q => s.heap.size ≤ q) s.heap H locs T (oJ aj cJ f :: oD ae cD g :: MW cI cJ cZ am Sm)) (hl : lv_has ls 9 [(5, .int (nI i)), (4, .ref ae), (3, .ref aj), (2, .ref (am 0)), (1, .ref (ad 0)), (0, .ref b)]) (kk : ∀ {k1 : Nat} {r1 : Int32} {T1 : AT} {r2 : Int32} {S1 : MS} (ad2 : Nat → Nat) (f1 : Nat → Int64) (g1 : Nat → UInt64) (H1 : Heap) (locs1 : List Loc) (ls1 : Array Slot), g_X11_trackCell T 0 (xs (i + 1)) (xs (i + 2)) = some (k1, r1, T1) → fr_trackCell Sm (xs (i + 1)) (xs (i + 2)) = some (r2, S1) → ad2 0 = ad 0 → IV aR0 1586 aK1 aK2 T1 → RC T1 → JJ S1 → gL cI cJ cZ cMic cSrc cSt cAI cAJ D ad2 (fun q => s.heap.size ≤ q) s.heap H1 locs1 T1 (oJ aj cJ f1 :: oD ae cD g1 :: MW cI cJ cZ am S1) → lv_has ls1 9 [(5, .int (nI i)), (4, .ref ae), (3, .ref aj), (2, .ref (am 0)), (1, .ref (ad2 0)), (0, .ref b)] → W p l e room_1 s m #[Value.ref b] below meth c H1 locs1 (19 + T1.1 + (j + 1)) (38467 + sg T1 + 6 * (j + 1)) Q (F0 m 2439 ls1 [])) : W p l e room_1 s m #[Value.ref b] below meth c H locs (19 + T.1 + j) (38467 + sg T + 6 * j) Q (F0 m 1558 ls []) := by
  have E : cE p c cL_law s m #[Value.ref b] lw_tbl D RL (CT cI cJ cZ cMic cSrc cSt cAI cAJ ++ [(cD, .double)]) := ⟨hx, hb, hts, hown, hK⟩
  have hA : ∀ q : Nat, s.heap.size ≤ q → s.heap.size ≤ q := fun _ h => h
  have h0T : 0 < T.1 := Nat.lt_of_lt_of_le (by decide) hV.1.2.2
  have h0s : T.2.1 0 = (11, 0) := hV.2.1 0 ⟨by decide, by decide +kernel, by decide +kernel⟩
  refine lv_aload_n hx hb dL_law_1558 rfl (lv_at hl 4 rfl) ?_
  refine lv_aload_n hx hb dL_law_1559 rfl (lv_at hl 5 rfl) ?_
  refine lv_iload hx hb dL_law_1560 (lv_at hl 0 rfl) ?_
  refine lv_iconst (v := 1) hx hb dL_law_1562 (by decide) ?_
  refine lv_iadd hx hb dL_law_1563 ?_
  refine lv_to (y := nI (i + 1)) (nI_add i 1) ?_
  refine va_sld hx hb hX0 hbl (Nat.not_le.mpr hbl) G.2.2 (i := nI (i + 1)) (vp_in_nI (n := i + 1) (N := L) (by omega) (by omega)) dL_law_1564 ?_
  refine lv_to (y := xs (i + 1)) (congrArg xs (nI_clamp (by omega))) ?_
  refine lv_aload_n hx hb dL_law_1565 rfl (lv_at hl 5 rfl) ?_
  refine lv_iload hx hb dL_law_1566 (lv_at hl 0 rfl) ?_
  refine lv_iconst (v := 2) hx hb dL_law_1568 (by decide) ?_
  refine lv_iadd hx hb dL_law_1569 ?_
  refine lv_to (y := nI (i + 2)) (nI_add i 2) ?_
  refine va_sld hx hb hX0 hbl (Nat.not_le.mpr hbl) G.2.2 (i := nI (i + 2)) (vp_in_nI (n := i + 2) (N := L) (by omega) (by omega)) dL_law_1570 ?_
  refine lv_to (y := xs (i + 2)) (congrArg xs (nI_clamp (by omega))) ?_
  refine lv_aload_n hx hb dL_law_1571 rfl (lv_at hl 2 rfl) ?_
  obtain ⟨⟨k1, r1, T1⟩, hg, hc⟩ := cs_X11_trackCell T 0 (xs (i + 1)) (xs (i + 2)) hV (by decide +kernel)
  have hV1 : IV aR0 1586 aK1 aK2 T1 := hc.1.1
  have hg1 := s_X11_trackCell hg
  have hg2 := sg_le hg1
  have hg3 := hg1.1
  have hk := hV1.2.2.2.2.2.2
  have hrc1 := hg1.2.2 hrc
  have hr0 := a_room
  refine l_v (h0 := s.heap.size) (As := [.ref (ad 0), .int (xs (i + 1)), .int (xs (i + 2)), .ref aj]) (rest := []) E G hA hX hN (fun _ h => h) hTS hml (v_trackCell l hst D s.heap.size ad T 0 (xs (i + 1)) (xs (i + 2)) aj f hg hrc h0T h0s) (vx_cwSW 4 hts (glA (L := [Cond.methodLink RL 333 yL_trackCell, Cond.static yL_trackCell, Cond.initialized RL]) (gl_in [(6, 212), (6, 213), (1, 0)] (by decide +kernel) (by decide +kernel)) ⟨(t_of [Cond.codeWith yL_trackCell cL_trackCell 5 (some .int) [(0, 10, 13, 21), (0, 10, 17, 13), (0, 10, 21, 15)]] [(6, 214)] (by decide +kernel) _ List.mem_cons_self), List.all_eq_true.mp (by decide +kernel : [Cond.codeWith yL_trackCell cL_trackCell 5 (some .int) [(0, 10, 13, 21), (0, 10, 17, 13), (0, 10, 21, 15)]].all goodWord = true) _ List.mem_cons_self⟩) rfl rfl rfl (by decide +kernel) ⟨Nat.le_of_ble_eq_true rfl, Nat.le_of_ble_eq_true rfl⟩) rfl hl.1 rfl (lv_room (Nat.le_of_ble_eq_true rfl)) dL_law_1572 ⟨by show _ ≤ 601024; omega, by show _ ≤ 7293034; omega⟩ ?_
  intro ad2 H locs had G
  rw [← had 0 h0T] at hl
  refine lv_istore (lv' := [(6, .int (vck 1 2 3 k1)), (5, .int (nI i)), (4, .ref ae), (3, .ref aj), (2, .ref (am 0)), (1, .ref (ad2 0)), (0, .ref b)]) hx hb dL_law_1575 hl (by decide) rfl (fun ls hl => ?_)
  refine lv_aload_n hx hb dL_law_1577 rfl (lv_at hl 4 rfl) ?_
  refine lv_aload_n hx hb dL_law_1578 rfl (lv_at hl 6 rfl) ?_
  refine lv_iload hx hb dL_law_1579 (lv_at hl 1 rfl) ?_
  refine lv_iconst (v := 1) hx hb dL_law_1581 (by decide) ?_
  refine lv_iadd hx hb dL_law_1582 ?_
  refine lv_to (y := nI (i + 1)) (nI_add i 1) ?_
  refine va_sld hx hb hX0 hbl (Nat.not_le.mpr hbl) G.2.2 (i := nI (i + 1)) (vp_in_nI (n := i + 1) (N := L) (by omega) (by omega)) dL_law_1583 ?_
  refine lv_to (y := xs (i + 1)) (congrArg xs (nI_clamp (by omega))) ?_
  refine lv_aload_n hx hb dL_law_1584 rfl (lv_at hl 6 rfl) ?_
  refine lv_iload hx hb dL_law_1585 (lv_at hl 1 rfl) ?_
  refine lv_iconst (v := 2) hx hb dL_law_1587 (by decide) ?_
  refine lv_iadd hx hb dL_law_1588 ?_
  refine lv_to (y := nI (i + 2)) (nI_add i 2) ?_
  refine va_sld hx hb hX0 hbl (Nat.not_le.mpr hbl) G.2.2 (i := nI (i + 2)) (vp_in_nI (n := i + 2) (N := L) (by omega) (by omega)) dL_law_1589 ?_
  refine lv_to (y := xs (i + 2)) (congrArg xs (nI_clamp (by omega))) ?_
  obtain ⟨⟨r2, S1⟩, hf, hj⟩ := sj_trackCell Sm (xs (i + 1)) (xs (i + 2)) hJ
  have hJ1 : JJ S1 := hj
  refine y_mi (As := [.int (xs (i + 1)), .int (xs (i + 2))]) (rest := []) E G hA hX.2.2.2.2 hml (tr_trackCell l D cI cJ cZ am Sm (xs (i + 1)) (xs (i + 2)) hf) (cwV 2 hts (glM (L := [Cond.methodLink RL 335 yX12_trackCell, Cond.instanceMethod yX12_trackCell, Cond.selects RX12 yX12_trackCell yX12_trackCell, Cond.initialized RX12]) (gl_in [(10, 65), (10, 66), (10, 67), (1, 14)] (by decide +kernel) (by decide +kernel)) ⟨(t_of [Cond.code yX12_trackCell cX12_trackCell 5 (some .int)] [(10, 68)] (by decide +kernel) _ List.mem_cons_self), List.all_eq_true.mp (by decide +kernel : [Cond.code yX12_trackCell cX12_trackCell 5 (some .int)].all goodWord = true) _ List.mem_cons_self⟩) rfl rfl rfl (by decide +kernel) ⟨Nat.le_of_ble_eq_true rfl, Nat.le_of_ble_eq_true rfl⟩) rfl hl.1 rfl (lv_room (Nat.le_of_ble_eq_true rfl)) dL_law_1590 ⟨by show _ ≤ 601024; omega, by show _ ≤ 7293034; omega⟩ (fun H locs G => ?_)
  refine lv_istore (lv' := [(7, .int r2), (6, .int (vck 1 2 3 k1)), (5, .int (nI i)), (4, .ref ae), (3, .ref aj), (2, .ref (am 0)), (1, .ref (ad2 0)), (0, .ref b)]) hx hb dL_law_1593 hl (by decide) rfl (fun ls hl => ?_)
  refine lv_goto (tgt := 2439) hx hb dL_law_1595 (by decide) ?_
  have hl := lv_sub hl [2, 3, 4, 5, 6, 7] rfl
  refine W.widen (k := 19 + T1.1 + (j + 1)) (n := 38467 + sg T1 + 6 * (j + 1)) (by omega) (by omega) ?_
  exact kk ad2 (vfJ k1 f r1.toInt64) g H locs ls hg hf (had 0 h0T) hV1 hrc1 hJ1 G hl
set_option maxHeartbeats 4000000 in
set_option maxRecDepth 100000 in
theorem y_a41 {p : Program} {e : Env} {s : State} {m : MethodId} {below : List Frame} {meth : Method} {c : Code} (l : Launch) (hst : l.stackTraces = false) {b L : Nat} {xs : Nat → Int32} (hx : p.tables.exec = Jvm.exec) (hb : c.code = code) (hml : c.maxLocals = 9) (hown : s.vm.findClass RL = some m.cls) (hts : ∀ w ∈ lw_tbl, w.before #[Value.ref b] s = true) (hX0 : va_X b L xs s s.heap) (hbl : b < s.heap.size) (hX : xT (fun q => s.heap.size ≤ q) s) (hN : nC s) (hTS : sAll s.heap.size s) {D : va_G} {cI cJ cZ cMic cSrc cSt cAI cAJ cD : ClassId} (hK : va_K D vwCl (CT cI cJ cZ cMic cSrc cSt cAI cAJ ++ [(cD, .double)]) s) {Q : State → Prop} {i j : Nat} (hi : i + 6 ≤ L) (hL : L ≤ 3072) (hj : j < 512) {aj ae : Nat} {ad am : Nat → Nat} {T : AT} {Sm : MS} {f : Nat → Int64} {g : Nat → UInt64} {ls : Array Slot} {H : Heap} {locs : List Loc} (hV : IV aR0 1586 aK1 aK2 T) (hrc : RC T) (hJ : JJ Sm) (G : gL cI cJ cZ cMic cSrc cSt cAI cAJ D ad (fun q => s.heap.size ≤ q) s.heap H locs T (oJ aj cJ f :: oD ae cD g :: MW cI cJ cZ am Sm)) (hl : lv_has ls 9 [(5, .int (nI i)), (4, .ref ae), (3, .ref aj), (2, .ref (am 0)), (1, .ref (ad 0)), (0, .ref b)]) (kk : ∀ {k1 : Nat} {r1 : Int64} {T1 : AT} {r2 : Int64} {S1 : MS} (ad2 : Nat → Nat) (f1 : Nat → Int64) (g1 : Nat → UInt64) (H1 : Heap) (locs1 : List Loc) (ls1 : Array Slot), g_X11_movingPower T 0 (xs (i + 1)) (xs (i + 2)) (xs (i + 3)) = some (k1, r1, T1) → fr_movingPower Sm (xs (i + 1)) (xs (i + 2)) (xs (i + 3)) = some (r2, S1) → ad2 0 = ad 0 → IV aR0 1586 aK1 aK2 T1 → RC T1 → JJ S1 → gL cI cJ cZ cMic cSrc cSt cAI cAJ D ad2 (fun q => s.heap.size ≤ q) s.heap H1 locs1 T1 (oJ aj cJ f1 :: oD ae cD g1 :: MW cI cJ cZ am S1) → lv_has ls1 9 [(5, .int (nI i)), (4, .ref ae), (3, .ref aj), (2, .ref (am 0)), (1, .ref (ad2 0)), (0, .ref b)] → W p l e room_1 s m #[Value.ref b] below meth c H1 locs1 (19 + T1.1 + (j + 1)) (38467 + sg T1 + 6 * (j + 1)) Q (F0 m 2439 ls1 [])) : W p l e room_1 s m #[Value.ref b] below meth c H locs (19 + T.1 + j) (38467 + sg T + 6 * j) Q (F0 m 1598 ls []) := by
  have E : cE p c cL_law s m #[Value.ref b] lw_tbl D RL (CT cI cJ cZ cMic cSrc cSt cAI cAJ ++ [(cD, .double)]) := ⟨hx, hb, hts, hown, hK⟩
  have hA : ∀ q : Nat, s.heap.size ≤ q → s.heap.size ≤ q := fun _ h => h
  have h0T : 0 < T.1 := Nat.lt_of_lt_of_le (by decide) hV.1.2.2
  have h0s : T.2.1 0 = (11, 0) := hV.2.1 0 ⟨by decide, by decide +kernel, by decide +kernel⟩
  refine lv_aload_n hx hb dL_law_1598 rfl (lv_at hl 4 rfl) ?_
  refine lv_aload_n hx hb dL_law_1599 rfl (lv_at hl 5 rfl) ?_
  refine lv_iload hx hb dL_law_1600 (lv_at hl 0 rfl) ?_
  refine lv_iconst (v := 1) hx hb dL_law_1602 (by decide) ?_
  refine lv_iadd hx hb dL_law_1603 ?_
  refine lv_to (y := nI (i + 1)) (nI_add i 1) ?_
  refine va_sld hx hb hX0 hbl (Nat.not_le.mpr hbl) G.2.2 (i := nI (i + 1)) (vp_in_nI (n := i + 1) (N := L) (by omega) (by omega)) dL_law_1604 ?_
  refine lv_to (y := xs (i + 1)) (congrArg xs (nI_clamp (by omega))) ?_
  refine lv_aload_n hx hb dL_law_1605 rfl (lv_at hl 5 rfl) ?_
  refine lv_iload hx hb dL_law_1606 (lv_at hl 0 rfl) ?_
  refine lv_iconst (v := 2) hx hb dL_law_1608 (by decide) ?_
  refine lv_iadd hx hb dL_law_1609 ?_
  refine lv_to (y := nI (i + 2)) (nI_add i 2) ?_
  refine va_sld hx hb hX0 hbl (Nat.not_le.mpr hbl) G.2.2 (i := nI (i + 2)) (vp_in_nI (n := i + 2) (N := L) (by omega) (by omega)) dL_law_1610 ?_
  refine lv_to (y := xs (i + 2)) (congrArg xs (nI_clamp (by omega))) ?_
  refine lv_aload_n hx hb dL_law_1611 rfl (lv_at hl 5 rfl) ?_
  refine lv_iload hx hb dL_law_1612 (lv_at hl 0 rfl) ?_
  refine lv_iconst (v := 3) hx hb dL_law_1614 (by decide) ?_
  refine lv_iadd hx hb dL_law_1615 ?_
  refine lv_to (y := nI (i + 3)) (nI_add i 3) ?_
  refine va_sld hx hb hX0 hbl (Nat.not_le.mpr hbl) G.2.2 (i := nI (i + 3)) (vp_in_nI (n := i + 3) (N := L) (by omega) (by omega)) dL_law_1616 ?_
  refine lv_to (y := xs (i + 3)) (congrArg xs (nI_clamp (by omega))) ?_
  refine lv_aload_n hx hb dL_law_1617 rfl (lv_at hl 2 rfl) ?_
  obtain ⟨⟨k1, r1, T1⟩, hg, hc⟩ := cs_X11_movingPower T 0 (xs (i + 1)) (xs (i + 2)) (xs (i + 3)) hV (by decide +kernel)
  have hV1 : IV aR0 1586 aK1 aK2 T1 := hc.1.1
  have hg1 := s_X11_movingPower hg
  have hg2 := sg_le hg1
  have hg3 := hg1.1
  have hk := hV1.2.2.2.2.2.2
  have hrc1 := hg1.2.2 hrc
  have hr0 := a_room
  refine l_v (h0 := s.heap.size) (As := [.ref (ad 0), .int (xs (i + 1)), .int (xs (i + 2)), .int (xs (i + 3)), .ref aj]) (rest := []) E G hA hX hN (fun _ h => h) hTS hml (v_movingPower l hst D s.heap.size ad T 0 (xs (i + 1)) (xs (i + 2)) (xs (i + 3)) aj f hg hrc h0T h0s) (vx_cwSW 5 hts (glA (L := [Cond.methodLink RL 336 yL_movingPower, Cond.static yL_movingPower, Cond.initialized RL]) (gl_in [(6, 220), (6, 221), (1, 0)] (by decide +kernel) (by decide +kernel)) ⟨(t_of [Cond.codeWith yL_movingPower cL_movingPower 6 (some .int) [(0, 11, 14, 21), (0, 11, 18, 13), (0, 11, 22, 15)]] [(6, 222)] (by decide +kernel) _ List.mem_cons_self), List.all_eq_true.mp (by decide +kernel : [Cond.codeWith yL_movingPower cL_movingPower 6 (some .int) [(0, 11, 14, 21), (0, 11, 18, 13), (0, 11, 22, 15)]].all goodWord = true) _ List.mem_cons_self⟩) rfl rfl rfl (by decide +kernel) ⟨Nat.le_of_ble_eq_true rfl, Nat.le_of_ble_eq_true rfl⟩) rfl hl.1 rfl (lv_room (Nat.le_of_ble_eq_true rfl)) dL_law_1618 ⟨by show _ ≤ 601024; omega, by show _ ≤ 7293034; omega⟩ ?_
  intro ad2 H locs had G
  rw [← had 0 h0T] at hl
  refine lv_istore (lv' := [(6, .int (vck 1 2 3 k1)), (5, .int (nI i)), (4, .ref ae), (3, .ref aj), (2, .ref (am 0)), (1, .ref (ad2 0)), (0, .ref b)]) hx hb dL_law_1621 hl (by decide) rfl (fun ls hl => ?_)
  refine lv_aload_n hx hb dL_law_1623 rfl (lv_at hl 4 rfl) ?_
  refine lv_aload_n hx hb dL_law_1624 rfl (lv_at hl 6 rfl) ?_
  refine lv_iload hx hb dL_law_1625 (lv_at hl 1 rfl) ?_
  refine lv_iconst (v := 1) hx hb dL_law_1627 (by decide) ?_
  refine lv_iadd hx hb dL_law_1628 ?_
  refine lv_to (y := nI (i + 1)) (nI_add i 1) ?_
  refine va_sld hx hb hX0 hbl (Nat.not_le.mpr hbl) G.2.2 (i := nI (i + 1)) (vp_in_nI (n := i + 1) (N := L) (by omega) (by omega)) dL_law_1629 ?_
  refine lv_to (y := xs (i + 1)) (congrArg xs (nI_clamp (by omega))) ?_
  refine lv_aload_n hx hb dL_law_1630 rfl (lv_at hl 6 rfl) ?_
  refine lv_iload hx hb dL_law_1631 (lv_at hl 1 rfl) ?_
  refine lv_iconst (v := 2) hx hb dL_law_1633 (by decide) ?_
  refine lv_iadd hx hb dL_law_1634 ?_
  refine lv_to (y := nI (i + 2)) (nI_add i 2) ?_
  refine va_sld hx hb hX0 hbl (Nat.not_le.mpr hbl) G.2.2 (i := nI (i + 2)) (vp_in_nI (n := i + 2) (N := L) (by omega) (by omega)) dL_law_1635 ?_
  refine lv_to (y := xs (i + 2)) (congrArg xs (nI_clamp (by omega))) ?_
  refine lv_aload_n hx hb dL_law_1636 rfl (lv_at hl 6 rfl) ?_
  refine lv_iload hx hb dL_law_1637 (lv_at hl 1 rfl) ?_
  refine lv_iconst (v := 3) hx hb dL_law_1639 (by decide) ?_
  refine lv_iadd hx hb dL_law_1640 ?_
  refine lv_to (y := nI (i + 3)) (nI_add i 3) ?_
  refine va_sld hx hb hX0 hbl (Nat.not_le.mpr hbl) G.2.2 (i := nI (i + 3)) (vp_in_nI (n := i + 3) (N := L) (by omega) (by omega)) dL_law_1641 ?_
  refine lv_to (y := xs (i + 3)) (congrArg xs (nI_clamp (by omega))) ?_
  obtain ⟨⟨r2, S1⟩, hf, hj⟩ := sj_movingPower Sm (xs (i + 1)) (xs (i + 2)) (xs (i + 3)) hJ
  have hJ1 : JJ S1 := hj
  refine y_ml (As := [.int (xs (i + 1)), .int (xs (i + 2)), .int (xs (i + 3))]) (rest := []) E G hA hX.2.2.2.2 hml (tr_movingPower l D cI cJ cZ am Sm (xs (i + 1)) (xs (i + 2)) (xs (i + 3)) hf) (cwV 3 hts (glM (L := [Cond.methodLink RL 338 yX12_movingPower, Cond.instanceMethod yX12_movingPower, Cond.selects RX12 yX12_movingPower yX12_movingPower, Cond.initialized RX12]) (gl_in [(10, 85), (10, 86), (10, 87), (1, 14)] (by decide +kernel) (by decide +kernel)) ⟨(t_of [Cond.code yX12_movingPower cX12_movingPower 4 (some .long)] [(10, 88)] (by decide +kernel) _ List.mem_cons_self), List.all_eq_true.mp (by decide +kernel : [Cond.code yX12_movingPower cX12_movingPower 4 (some .long)].all goodWord = true) _ List.mem_cons_self⟩) rfl rfl rfl (by decide +kernel) ⟨Nat.le_of_ble_eq_true rfl, Nat.le_of_ble_eq_true rfl⟩) rfl hl.1 rfl (lv_room (Nat.le_of_ble_eq_true rfl)) dL_law_1642 ⟨by show _ ≤ 601024; omega, by show _ ≤ 7293034; omega⟩ (fun H locs G => ?_)
  refine lv_lstore (lv' := [(7, .long r2), (6, .int (vck 1 2 3 k1)), (5, .int (nI i)), (4, .ref ae), (3, .ref aj), (2, .ref (am 0)), (1, .ref (ad2 0)), (0, .ref b)]) hx hb dL_law_1645 hl (by decide) rfl (fun ls hl => ?_)
  refine lv_goto (tgt := 2439) hx hb dL_law_1647 (by decide) ?_
  have hl := lv_sub hl [2, 3, 4, 5, 6, 7] rfl
  refine W.widen (k := 19 + T1.1 + (j + 1)) (n := 38467 + sg T1 + 6 * (j + 1)) (by omega) (by omega) ?_
  exact kk ad2 (vfJ k1 f r1) g H locs ls hg hf (had 0 h0T) hV1 hrc1 hJ1 G hl
set_option maxHeartbeats 4000000 in
set_option maxRecDepth 100000 in
theorem y_a42 {p : Program} {e : Env} {s : State} {m : MethodId} {below : List Frame} {meth : Method} {c : Code} (l : Launch) (hst : l.stackTraces = false) {b L : Nat} {xs : Nat → Int32} (hx : p.tables.exec = Jvm.exec) (hb : c.code = code) (hml : c.maxLocals = 9) (hown : s.vm.findClass RL = some m.cls) (hts : ∀ w ∈ lw_tbl, w.before #[Value.ref b] s = true) (hX0 : va_X b L xs s s.heap) (hbl : b < s.heap.size) (hX : xT (fun q => s.heap.size ≤ q) s) (hN : nC s) (hTS : sAll s.heap.size s) {D : va_G} {cI cJ cZ cMic cSrc cSt cAI cAJ cD : ClassId} (hK : va_K D vwCl (CT cI cJ cZ cMic cSrc cSt cAI cAJ ++ [(cD, .double)]) s) {Q : State → Prop} {i j : Nat} (hi : i + 6 ≤ L) (hL : L ≤ 3072) (hj : j < 512) {aj ae : Nat} {ad am : Nat → Nat} {T : AT} {Sm : MS} {f : Nat → Int64} {g : Nat → UInt64} {ls : Array Slot} {H : Heap} {locs : List Loc} (hV : IV aR0 1586 aK1 aK2 T) (hrc : RC T) (hJ : JJ Sm) (G : gL cI cJ cZ cMic cSrc cSt cAI cAJ D ad (fun q => s.heap.size ≤ q) s.heap H locs T (oJ aj cJ f :: oD ae cD g :: MW cI cJ cZ am Sm)) (hl : lv_has ls 9 [(5, .int (nI i)), (4, .ref ae), (3, .ref aj), (2, .ref (am 0)), (1, .ref (ad 0)), (0, .ref b)]) (kk : ∀ {k1 : Nat} {r1 : Int32} {T1 : AT} {r2 : Int32} {S1 : MS} (ad2 : Nat → Nat) (f1 : Nat → Int64) (g1 : Nat → UInt64) (H1 : Heap) (locs1 : List Loc) (ls1 : Array Slot), g_X11_bestVelocity T 0 (xs (i + 1)) (xs (i + 2)) (xs (i + 3)) = some (k1, r1, T1) → fr_bestVelocity Sm (xs (i + 1)) (xs (i + 2)) (xs (i + 3)) = some (r2, S1) → ad2 0 = ad 0 → IV aR0 1586 aK1 aK2 T1 → RC T1 → JJ S1 → gL cI cJ cZ cMic cSrc cSt cAI cAJ D ad2 (fun q => s.heap.size ≤ q) s.heap H1 locs1 T1 (oJ aj cJ f1 :: oD ae cD g1 :: MW cI cJ cZ am S1) → lv_has ls1 9 [(5, .int (nI i)), (4, .ref ae), (3, .ref aj), (2, .ref (am 0)), (1, .ref (ad2 0)), (0, .ref b)] → W p l e room_1 s m #[Value.ref b] below meth c H1 locs1 (19 + T1.1 + (j + 1)) (38467 + sg T1 + 6 * (j + 1)) Q (F0 m 2439 ls1 [])) : W p l e room_1 s m #[Value.ref b] below meth c H locs (19 + T.1 + j) (38467 + sg T + 6 * j) Q (F0 m 1650 ls []) := by
  have E : cE p c cL_law s m #[Value.ref b] lw_tbl D RL (CT cI cJ cZ cMic cSrc cSt cAI cAJ ++ [(cD, .double)]) := ⟨hx, hb, hts, hown, hK⟩
  have hA : ∀ q : Nat, s.heap.size ≤ q → s.heap.size ≤ q := fun _ h => h
  have h0T : 0 < T.1 := Nat.lt_of_lt_of_le (by decide) hV.1.2.2
  have h0s : T.2.1 0 = (11, 0) := hV.2.1 0 ⟨by decide, by decide +kernel, by decide +kernel⟩
  refine lv_aload_n hx hb dL_law_1650 rfl (lv_at hl 4 rfl) ?_
  refine lv_aload_n hx hb dL_law_1651 rfl (lv_at hl 5 rfl) ?_
  refine lv_iload hx hb dL_law_1652 (lv_at hl 0 rfl) ?_
  refine lv_iconst (v := 1) hx hb dL_law_1654 (by decide) ?_
  refine lv_iadd hx hb dL_law_1655 ?_
  refine lv_to (y := nI (i + 1)) (nI_add i 1) ?_
  refine va_sld hx hb hX0 hbl (Nat.not_le.mpr hbl) G.2.2 (i := nI (i + 1)) (vp_in_nI (n := i + 1) (N := L) (by omega) (by omega)) dL_law_1656 ?_
  refine lv_to (y := xs (i + 1)) (congrArg xs (nI_clamp (by omega))) ?_
  refine lv_aload_n hx hb dL_law_1657 rfl (lv_at hl 5 rfl) ?_
  refine lv_iload hx hb dL_law_1658 (lv_at hl 0 rfl) ?_
  refine lv_iconst (v := 2) hx hb dL_law_1660 (by decide) ?_
  refine lv_iadd hx hb dL_law_1661 ?_
  refine lv_to (y := nI (i + 2)) (nI_add i 2) ?_
  refine va_sld hx hb hX0 hbl (Nat.not_le.mpr hbl) G.2.2 (i := nI (i + 2)) (vp_in_nI (n := i + 2) (N := L) (by omega) (by omega)) dL_law_1662 ?_
  refine lv_to (y := xs (i + 2)) (congrArg xs (nI_clamp (by omega))) ?_
  refine lv_aload_n hx hb dL_law_1663 rfl (lv_at hl 5 rfl) ?_
  refine lv_iload hx hb dL_law_1664 (lv_at hl 0 rfl) ?_
  refine lv_iconst (v := 3) hx hb dL_law_1666 (by decide) ?_
  refine lv_iadd hx hb dL_law_1667 ?_
  refine lv_to (y := nI (i + 3)) (nI_add i 3) ?_
  refine va_sld hx hb hX0 hbl (Nat.not_le.mpr hbl) G.2.2 (i := nI (i + 3)) (vp_in_nI (n := i + 3) (N := L) (by omega) (by omega)) dL_law_1668 ?_
  refine lv_to (y := xs (i + 3)) (congrArg xs (nI_clamp (by omega))) ?_
  refine lv_aload_n hx hb dL_law_1669 rfl (lv_at hl 2 rfl) ?_
  obtain ⟨⟨k1, r1, T1⟩, hg, hc⟩ := cs_X11_bestVelocity T 0 (xs (i + 1)) (xs (i + 2)) (xs (i + 3)) hV (by decide +kernel)
  have hV1 : IV aR0 1586 aK1 aK2 T1 := hc.1.1
  have hg1 := s_X11_bestVelocity hg
  have hg2 := sg_le hg1
  have hg3 := hg1.1
  have hk := hV1.2.2.2.2.2.2
  have hrc1 := hg1.2.2 hrc
  have hr0 := a_room
  refine l_v (h0 := s.heap.size) (As := [.ref (ad 0), .int (xs (i + 1)), .int (xs (i + 2)), .int (xs (i + 3)), .ref aj]) (rest := []) E G hA hX hN (fun _ h => h) hTS hml (v_bestVelocity l hst D s.heap.size ad T 0 (xs (i + 1)) (xs (i + 2)) (xs (i + 3)) aj f hg hrc h0T h0s) (vx_cwSW 5 hts (glA (L := [Cond.methodLink RL 339 yL_bestVelocity, Cond.static yL_bestVelocity, Cond.initialized RL]) (gl_in [(6, 233), (6, 234), (1, 0)] (by decide +kernel) (by decide +kernel)) ⟨(t_of [Cond.codeWith yL_bestVelocity cL_bestVelocity 6 (some .int) [(0, 12, 15, 21), (0, 12, 19, 13), (0, 12, 23, 15)]] [(6, 235)] (by decide +kernel) _ List.mem_cons_self), List.all_eq_true.mp (by decide +kernel : [Cond.codeWith yL_bestVelocity cL_bestVelocity 6 (some .int) [(0, 12, 15, 21), (0, 12, 19, 13), (0, 12, 23, 15)]].all goodWord = true) _ List.mem_cons_self⟩) rfl rfl rfl (by decide +kernel) ⟨Nat.le_of_ble_eq_true rfl, Nat.le_of_ble_eq_true rfl⟩) rfl hl.1 rfl (lv_room (Nat.le_of_ble_eq_true rfl)) dL_law_1670 ⟨by show _ ≤ 601024; omega, by show _ ≤ 7293034; omega⟩ ?_
  intro ad2 H locs had G
  rw [← had 0 h0T] at hl
  refine lv_istore (lv' := [(6, .int (vck 1 2 3 k1)), (5, .int (nI i)), (4, .ref ae), (3, .ref aj), (2, .ref (am 0)), (1, .ref (ad2 0)), (0, .ref b)]) hx hb dL_law_1673 hl (by decide) rfl (fun ls hl => ?_)
  refine lv_aload_n hx hb dL_law_1675 rfl (lv_at hl 4 rfl) ?_
  refine lv_aload_n hx hb dL_law_1676 rfl (lv_at hl 6 rfl) ?_
  refine lv_iload hx hb dL_law_1677 (lv_at hl 1 rfl) ?_
  refine lv_iconst (v := 1) hx hb dL_law_1679 (by decide) ?_
  refine lv_iadd hx hb dL_law_1680 ?_
  refine lv_to (y := nI (i + 1)) (nI_add i 1) ?_
  refine va_sld hx hb hX0 hbl (Nat.not_le.mpr hbl) G.2.2 (i := nI (i + 1)) (vp_in_nI (n := i + 1) (N := L) (by omega) (by omega)) dL_law_1681 ?_
  refine lv_to (y := xs (i + 1)) (congrArg xs (nI_clamp (by omega))) ?_
  refine lv_aload_n hx hb dL_law_1682 rfl (lv_at hl 6 rfl) ?_
  refine lv_iload hx hb dL_law_1683 (lv_at hl 1 rfl) ?_
  refine lv_iconst (v := 2) hx hb dL_law_1685 (by decide) ?_
  refine lv_iadd hx hb dL_law_1686 ?_
  refine lv_to (y := nI (i + 2)) (nI_add i 2) ?_
  refine va_sld hx hb hX0 hbl (Nat.not_le.mpr hbl) G.2.2 (i := nI (i + 2)) (vp_in_nI (n := i + 2) (N := L) (by omega) (by omega)) dL_law_1687 ?_
  refine lv_to (y := xs (i + 2)) (congrArg xs (nI_clamp (by omega))) ?_
  refine lv_aload_n hx hb dL_law_1688 rfl (lv_at hl 6 rfl) ?_
  refine lv_iload hx hb dL_law_1689 (lv_at hl 1 rfl) ?_
  refine lv_iconst (v := 3) hx hb dL_law_1691 (by decide) ?_
  refine lv_iadd hx hb dL_law_1692 ?_
  refine lv_to (y := nI (i + 3)) (nI_add i 3) ?_
  refine va_sld hx hb hX0 hbl (Nat.not_le.mpr hbl) G.2.2 (i := nI (i + 3)) (vp_in_nI (n := i + 3) (N := L) (by omega) (by omega)) dL_law_1693 ?_
  refine lv_to (y := xs (i + 3)) (congrArg xs (nI_clamp (by omega))) ?_
  obtain ⟨⟨r2, S1⟩, hf, hj⟩ := sj_bestVelocity Sm (xs (i + 1)) (xs (i + 2)) (xs (i + 3)) hJ
  have hJ1 : JJ S1 := hj
  refine y_mi (As := [.int (xs (i + 1)), .int (xs (i + 2)), .int (xs (i + 3))]) (rest := []) E G hA hX.2.2.2.2 hml (tr_bestVelocity l D cI cJ cZ am Sm (xs (i + 1)) (xs (i + 2)) (xs (i + 3)) hf) (cwV 3 hts (glM (L := [Cond.methodLink RL 341 yX12_bestVelocity, Cond.instanceMethod yX12_bestVelocity, Cond.selects RX12 yX12_bestVelocity yX12_bestVelocity, Cond.initialized RX12]) (gl_in [(10, 96), (10, 97), (10, 98), (1, 14)] (by decide +kernel) (by decide +kernel)) ⟨(t_of [Cond.code yX12_bestVelocity cX12_bestVelocity 11 (some .int)] [(10, 99)] (by decide +kernel) _ List.mem_cons_self), List.all_eq_true.mp (by decide +kernel : [Cond.code yX12_bestVelocity cX12_bestVelocity 11 (some .int)].all goodWord = true) _ List.mem_cons_self⟩) rfl rfl rfl (by decide +kernel) ⟨Nat.le_of_ble_eq_true rfl, Nat.le_of_ble_eq_true rfl⟩) rfl hl.1 rfl (lv_room (Nat.le_of_ble_eq_true rfl)) dL_law_1694 ⟨by show _ ≤ 601024; omega, by show _ ≤ 7293034; omega⟩ (fun H locs G => ?_)
  refine lv_istore (lv' := [(7, .int r2), (6, .int (vck 1 2 3 k1)), (5, .int (nI i)), (4, .ref ae), (3, .ref aj), (2, .ref (am 0)), (1, .ref (ad2 0)), (0, .ref b)]) hx hb dL_law_1697 hl (by decide) rfl (fun ls hl => ?_)
  refine lv_goto (tgt := 2439) hx hb dL_law_1699 (by decide) ?_
  have hl := lv_sub hl [2, 3, 4, 5, 6, 7] rfl
  refine W.widen (k := 19 + T1.1 + (j + 1)) (n := 38467 + sg T1 + 6 * (j + 1)) (by omega) (by omega) ?_
  exact kk ad2 (vfJ k1 f r1.toInt64) g H locs ls hg hf (had 0 h0T) hV1 hrc1 hJ1 G hl
set_option maxHeartbeats 4000000 in
set_option maxRecDepth 100000 in
theorem y_a43 {p : Program} {e : Env} {s : State} {m : MethodId} {below : List Frame} {meth : Method} {c : Code} (l : Launch) (hst : l.stackTraces = false) {b L : Nat} {xs : Nat → Int32} (hx : p.tables.exec = Jvm.exec) (hb : c.code = code) (hml : c.maxLocals = 9) (hown : s.vm.findClass RL = some m.cls) (hts : ∀ w ∈ lw_tbl, w.before #[Value.ref b] s = true) (hX0 : va_X b L xs s s.heap) (hbl : b < s.heap.size) (hX : xT (fun q => s.heap.size ≤ q) s) (hN : nC s) (hTS : sAll s.heap.size s) {D : va_G} {cI cJ cZ cMic cSrc cSt cAI cAJ cD : ClassId} (hK : va_K D vwCl (CT cI cJ cZ cMic cSrc cSt cAI cAJ ++ [(cD, .double)]) s) {Q : State → Prop} {i j : Nat} (hi : i + 6 ≤ L) (hL : L ≤ 3072) (hj : j < 512) {aj ae : Nat} {ad am : Nat → Nat} {T : AT} {Sm : MS} {f : Nat → Int64} {g : Nat → UInt64} {ls : Array Slot} {H : Heap} {locs : List Loc} (hV : IV aR0 1586 aK1 aK2 T) (hrc : RC T) (hJ : JJ Sm) (G : gL cI cJ cZ cMic cSrc cSt cAI cAJ D ad (fun q => s.heap.size ≤ q) s.heap H locs T (oJ aj cJ f :: oD ae cD g :: MW cI cJ cZ am Sm)) (hl : lv_has ls 9 [(5, .int (nI i)), (4, .ref ae), (3, .ref aj), (2, .ref (am 0)), (1, .ref (ad 0)), (0, .ref b)]) (kk : ∀ {k1 : Nat} {r1 : Int64} {T1 : AT} {r2 : Int64} {S1 : MS} (ad2 : Nat → Nat) (f1 : Nat → Int64) (g1 : Nat → UInt64) (H1 : Heap) (locs1 : List Loc) (ls1 : Array Slot), g_X11_correlation T 0 (xs (i + 1)) (xs (i + 2)) (xs (i + 3)) = some (k1, r1, T1) → fr_correlation Sm (xs (i + 1)) (xs (i + 2)) (xs (i + 3)) = some (r2, S1) → ad2 0 = ad 0 → IV aR0 1586 aK1 aK2 T1 → RC T1 → JJ S1 → gL cI cJ cZ cMic cSrc cSt cAI cAJ D ad2 (fun q => s.heap.size ≤ q) s.heap H1 locs1 T1 (oJ aj cJ f1 :: oD ae cD g1 :: MW cI cJ cZ am S1) → lv_has ls1 9 [(5, .int (nI i)), (4, .ref ae), (3, .ref aj), (2, .ref (am 0)), (1, .ref (ad2 0)), (0, .ref b)] → W p l e room_1 s m #[Value.ref b] below meth c H1 locs1 (19 + T1.1 + (j + 1)) (38467 + sg T1 + 6 * (j + 1)) Q (F0 m 2439 ls1 [])) : W p l e room_1 s m #[Value.ref b] below meth c H locs (19 + T.1 + j) (38467 + sg T + 6 * j) Q (F0 m 1702 ls []) := by
  have E : cE p c cL_law s m #[Value.ref b] lw_tbl D RL (CT cI cJ cZ cMic cSrc cSt cAI cAJ ++ [(cD, .double)]) := ⟨hx, hb, hts, hown, hK⟩
  have hA : ∀ q : Nat, s.heap.size ≤ q → s.heap.size ≤ q := fun _ h => h
  have h0T : 0 < T.1 := Nat.lt_of_lt_of_le (by decide) hV.1.2.2
  have h0s : T.2.1 0 = (11, 0) := hV.2.1 0 ⟨by decide, by decide +kernel, by decide +kernel⟩
  refine lv_aload_n hx hb dL_law_1702 rfl (lv_at hl 4 rfl) ?_
  refine lv_aload_n hx hb dL_law_1703 rfl (lv_at hl 5 rfl) ?_
  refine lv_iload hx hb dL_law_1704 (lv_at hl 0 rfl) ?_
  refine lv_iconst (v := 1) hx hb dL_law_1706 (by decide) ?_
  refine lv_iadd hx hb dL_law_1707 ?_
  refine lv_to (y := nI (i + 1)) (nI_add i 1) ?_
  refine va_sld hx hb hX0 hbl (Nat.not_le.mpr hbl) G.2.2 (i := nI (i + 1)) (vp_in_nI (n := i + 1) (N := L) (by omega) (by omega)) dL_law_1708 ?_
  refine lv_to (y := xs (i + 1)) (congrArg xs (nI_clamp (by omega))) ?_
  refine lv_aload_n hx hb dL_law_1709 rfl (lv_at hl 5 rfl) ?_
  refine lv_iload hx hb dL_law_1710 (lv_at hl 0 rfl) ?_
  refine lv_iconst (v := 2) hx hb dL_law_1712 (by decide) ?_
  refine lv_iadd hx hb dL_law_1713 ?_
  refine lv_to (y := nI (i + 2)) (nI_add i 2) ?_
  refine va_sld hx hb hX0 hbl (Nat.not_le.mpr hbl) G.2.2 (i := nI (i + 2)) (vp_in_nI (n := i + 2) (N := L) (by omega) (by omega)) dL_law_1714 ?_
  refine lv_to (y := xs (i + 2)) (congrArg xs (nI_clamp (by omega))) ?_
  refine lv_aload_n hx hb dL_law_1715 rfl (lv_at hl 5 rfl) ?_
  refine lv_iload hx hb dL_law_1716 (lv_at hl 0 rfl) ?_
  refine lv_iconst (v := 3) hx hb dL_law_1718 (by decide) ?_
  refine lv_iadd hx hb dL_law_1719 ?_
  refine lv_to (y := nI (i + 3)) (nI_add i 3) ?_
  refine va_sld hx hb hX0 hbl (Nat.not_le.mpr hbl) G.2.2 (i := nI (i + 3)) (vp_in_nI (n := i + 3) (N := L) (by omega) (by omega)) dL_law_1720 ?_
  refine lv_to (y := xs (i + 3)) (congrArg xs (nI_clamp (by omega))) ?_
  refine lv_aload_n hx hb dL_law_1721 rfl (lv_at hl 2 rfl) ?_
  obtain ⟨⟨k1, r1, T1⟩, hg, hc⟩ := cs_X11_correlation T 0 (xs (i + 1)) (xs (i + 2)) (xs (i + 3)) hV (by decide +kernel)
  have hV1 : IV aR0 1586 aK1 aK2 T1 := hc.1.1
  have hg1 := s_X11_correlation hg
  have hg2 := sg_le hg1
  have hg3 := hg1.1
  have hk := hV1.2.2.2.2.2.2
  have hrc1 := hg1.2.2 hrc
  have hr0 := a_room
  refine l_v (h0 := s.heap.size) (As := [.ref (ad 0), .int (xs (i + 1)), .int (xs (i + 2)), .int (xs (i + 3)), .ref aj]) (rest := []) E G hA hX hN (fun _ h => h) hTS hml (v_correlation l hst D s.heap.size ad T 0 (xs (i + 1)) (xs (i + 2)) (xs (i + 3)) aj f hg hrc h0T h0s) (vx_cwSW 5 hts (glA (L := [Cond.methodLink RL 342 yL_correlation, Cond.static yL_correlation, Cond.initialized RL]) (gl_in [(7, 2), (7, 3), (1, 0)] (by decide +kernel) (by decide +kernel)) ⟨(t_of [Cond.codeWith yL_correlation cL_correlation 6 (some .int) [(0, 11, 14, 21), (0, 11, 18, 13), (0, 11, 22, 15)]] [(7, 4)] (by decide +kernel) _ List.mem_cons_self), List.all_eq_true.mp (by decide +kernel : [Cond.codeWith yL_correlation cL_correlation 6 (some .int) [(0, 11, 14, 21), (0, 11, 18, 13), (0, 11, 22, 15)]].all goodWord = true) _ List.mem_cons_self⟩) rfl rfl rfl (by decide +kernel) ⟨Nat.le_of_ble_eq_true rfl, Nat.le_of_ble_eq_true rfl⟩) rfl hl.1 rfl (lv_room (Nat.le_of_ble_eq_true rfl)) dL_law_1722 ⟨by show _ ≤ 601024; omega, by show _ ≤ 7293034; omega⟩ ?_
  intro ad2 H locs had G
  rw [← had 0 h0T] at hl
  refine lv_istore (lv' := [(6, .int (vck 1 2 3 k1)), (5, .int (nI i)), (4, .ref ae), (3, .ref aj), (2, .ref (am 0)), (1, .ref (ad2 0)), (0, .ref b)]) hx hb dL_law_1725 hl (by decide) rfl (fun ls hl => ?_)
  refine lv_aload_n hx hb dL_law_1727 rfl (lv_at hl 4 rfl) ?_
  refine lv_aload_n hx hb dL_law_1728 rfl (lv_at hl 6 rfl) ?_
  refine lv_iload hx hb dL_law_1729 (lv_at hl 1 rfl) ?_
  refine lv_iconst (v := 1) hx hb dL_law_1731 (by decide) ?_
  refine lv_iadd hx hb dL_law_1732 ?_
  refine lv_to (y := nI (i + 1)) (nI_add i 1) ?_
  refine va_sld hx hb hX0 hbl (Nat.not_le.mpr hbl) G.2.2 (i := nI (i + 1)) (vp_in_nI (n := i + 1) (N := L) (by omega) (by omega)) dL_law_1733 ?_
  refine lv_to (y := xs (i + 1)) (congrArg xs (nI_clamp (by omega))) ?_
  refine lv_aload_n hx hb dL_law_1734 rfl (lv_at hl 6 rfl) ?_
  refine lv_iload hx hb dL_law_1735 (lv_at hl 1 rfl) ?_
  refine lv_iconst (v := 2) hx hb dL_law_1737 (by decide) ?_
  refine lv_iadd hx hb dL_law_1738 ?_
  refine lv_to (y := nI (i + 2)) (nI_add i 2) ?_
  refine va_sld hx hb hX0 hbl (Nat.not_le.mpr hbl) G.2.2 (i := nI (i + 2)) (vp_in_nI (n := i + 2) (N := L) (by omega) (by omega)) dL_law_1739 ?_
  refine lv_to (y := xs (i + 2)) (congrArg xs (nI_clamp (by omega))) ?_
  refine lv_aload_n hx hb dL_law_1740 rfl (lv_at hl 6 rfl) ?_
  refine lv_iload hx hb dL_law_1741 (lv_at hl 1 rfl) ?_
  refine lv_iconst (v := 3) hx hb dL_law_1743 (by decide) ?_
  refine lv_iadd hx hb dL_law_1744 ?_
  refine lv_to (y := nI (i + 3)) (nI_add i 3) ?_
  refine va_sld hx hb hX0 hbl (Nat.not_le.mpr hbl) G.2.2 (i := nI (i + 3)) (vp_in_nI (n := i + 3) (N := L) (by omega) (by omega)) dL_law_1745 ?_
  refine lv_to (y := xs (i + 3)) (congrArg xs (nI_clamp (by omega))) ?_
  obtain ⟨⟨r2, S1⟩, hf, hj⟩ := sj_correlation Sm (xs (i + 1)) (xs (i + 2)) (xs (i + 3)) hJ
  have hJ1 : JJ S1 := hj
  refine y_ml (As := [.int (xs (i + 1)), .int (xs (i + 2)), .int (xs (i + 3))]) (rest := []) E G hA hX.2.2.2.2 hml (tr_correlation l D cI cJ cZ am Sm (xs (i + 1)) (xs (i + 2)) (xs (i + 3)) hf) (cwV 3 hts (glM (L := [Cond.methodLink RL 344 yX12_correlation, Cond.instanceMethod yX12_correlation, Cond.selects RX12 yX12_correlation yX12_correlation, Cond.initialized RX12]) (gl_in [(10, 100), (10, 101), (10, 102), (1, 14)] (by decide +kernel) (by decide +kernel)) ⟨(t_of [Cond.code yX12_correlation cX12_correlation 4 (some .long)] [(10, 103)] (by decide +kernel) _ List.mem_cons_self), List.all_eq_true.mp (by decide +kernel : [Cond.code yX12_correlation cX12_correlation 4 (some .long)].all goodWord = true) _ List.mem_cons_self⟩) rfl rfl rfl (by decide +kernel) ⟨Nat.le_of_ble_eq_true rfl, Nat.le_of_ble_eq_true rfl⟩) rfl hl.1 rfl (lv_room (Nat.le_of_ble_eq_true rfl)) dL_law_1746 ⟨by show _ ≤ 601024; omega, by show _ ≤ 7293034; omega⟩ (fun H locs G => ?_)
  refine lv_lstore (lv' := [(7, .long r2), (6, .int (vck 1 2 3 k1)), (5, .int (nI i)), (4, .ref ae), (3, .ref aj), (2, .ref (am 0)), (1, .ref (ad2 0)), (0, .ref b)]) hx hb dL_law_1749 hl (by decide) rfl (fun ls hl => ?_)
  refine lv_goto (tgt := 2439) hx hb dL_law_1751 (by decide) ?_
  have hl := lv_sub hl [2, 3, 4, 5, 6, 7] rfl
  refine W.widen (k := 19 + T1.1 + (j + 1)) (n := 38467 + sg T1 + 6 * (j + 1)) (by omega) (by omega) ?_
  exact kk ad2 (vfJ k1 f r1) g H locs ls hg hf (had 0 h0T) hV1 hrc1 hJ1 G hl
set_option maxHeartbeats 4000000 in
set_option maxRecDepth 100000 in
theorem y_a44 {p : Program} {e : Env} {s : State} {m : MethodId} {below : List Frame} {meth : Method} {c : Code} (l : Launch) (hst : l.stackTraces = false) {b L : Nat} {xs : Nat → Int32} (hx : p.tables.exec = Jvm.exec) (hb : c.code = code) (hml : c.maxLocals = 9) (hown : s.vm.findClass RL = some m.cls) (hts : ∀ w ∈ lw_tbl, w.before #[Value.ref b] s = true) (hX0 : va_X b L xs s s.heap) (hbl : b < s.heap.size) (hX : xT (fun q => s.heap.size ≤ q) s) (hN : nC s) (hTS : sAll s.heap.size s) {D : va_G} {cI cJ cZ cMic cSrc cSt cAI cAJ cD : ClassId} (hK : va_K D vwCl (CT cI cJ cZ cMic cSrc cSt cAI cAJ ++ [(cD, .double)]) s) {Q : State → Prop} {i j : Nat} (hi : i + 6 ≤ L) (hL : L ≤ 3072) (hj : j < 512) {aj ae : Nat} {ad am : Nat → Nat} {T : AT} {Sm : MS} {f : Nat → Int64} {g : Nat → UInt64} {ls : Array Slot} {H : Heap} {locs : List Loc} (hV : IV aR0 1586 aK1 aK2 T) (hrc : RC T) (hJ : JJ Sm) (G : gL cI cJ cZ cMic cSrc cSt cAI cAJ D ad (fun q => s.heap.size ≤ q) s.heap H locs T (oJ aj cJ f :: oD ae cD g :: MW cI cJ cZ am Sm)) (hl : lv_has ls 9 [(5, .int (nI i)), (4, .ref ae), (3, .ref aj), (2, .ref (am 0)), (1, .ref (ad 0)), (0, .ref b)]) (kk : ∀ {k1 : Nat} {r1 : Int32} {T1 : AT} {r2 : Int32} {S1 : MS} (ad2 : Nat → Nat) (f1 : Nat → Int64) (g1 : Nat → UInt64) (H1 : Heap) (locs1 : List Loc) (ls1 : Array Slot), g_X11_bestLag T 0 (xs (i + 1)) (xs (i + 2)) (xs (i + 3)) = some (k1, r1, T1) → fr_bestLag Sm (xs (i + 1)) (xs (i + 2)) (xs (i + 3)) = some (r2, S1) → ad2 0 = ad 0 → IV aR0 1586 aK1 aK2 T1 → RC T1 → JJ S1 → gL cI cJ cZ cMic cSrc cSt cAI cAJ D ad2 (fun q => s.heap.size ≤ q) s.heap H1 locs1 T1 (oJ aj cJ f1 :: oD ae cD g1 :: MW cI cJ cZ am S1) → lv_has ls1 9 [(5, .int (nI i)), (4, .ref ae), (3, .ref aj), (2, .ref (am 0)), (1, .ref (ad2 0)), (0, .ref b)] → W p l e room_1 s m #[Value.ref b] below meth c H1 locs1 (19 + T1.1 + (j + 1)) (38467 + sg T1 + 6 * (j + 1)) Q (F0 m 2439 ls1 [])) : W p l e room_1 s m #[Value.ref b] below meth c H locs (19 + T.1 + j) (38467 + sg T + 6 * j) Q (F0 m 1754 ls []) := by
  have E : cE p c cL_law s m #[Value.ref b] lw_tbl D RL (CT cI cJ cZ cMic cSrc cSt cAI cAJ ++ [(cD, .double)]) := ⟨hx, hb, hts, hown, hK⟩
  have hA : ∀ q : Nat, s.heap.size ≤ q → s.heap.size ≤ q := fun _ h => h
  have h0T : 0 < T.1 := Nat.lt_of_lt_of_le (by decide) hV.1.2.2
  have h0s : T.2.1 0 = (11, 0) := hV.2.1 0 ⟨by decide, by decide +kernel, by decide +kernel⟩
  refine lv_aload_n hx hb dL_law_1754 rfl (lv_at hl 4 rfl) ?_
  refine lv_aload_n hx hb dL_law_1755 rfl (lv_at hl 5 rfl) ?_
  refine lv_iload hx hb dL_law_1756 (lv_at hl 0 rfl) ?_
  refine lv_iconst (v := 1) hx hb dL_law_1758 (by decide) ?_
  refine lv_iadd hx hb dL_law_1759 ?_
  refine lv_to (y := nI (i + 1)) (nI_add i 1) ?_
  refine va_sld hx hb hX0 hbl (Nat.not_le.mpr hbl) G.2.2 (i := nI (i + 1)) (vp_in_nI (n := i + 1) (N := L) (by omega) (by omega)) dL_law_1760 ?_
  refine lv_to (y := xs (i + 1)) (congrArg xs (nI_clamp (by omega))) ?_
  refine lv_aload_n hx hb dL_law_1761 rfl (lv_at hl 5 rfl) ?_
  refine lv_iload hx hb dL_law_1762 (lv_at hl 0 rfl) ?_
  refine lv_iconst (v := 2) hx hb dL_law_1764 (by decide) ?_
  refine lv_iadd hx hb dL_law_1765 ?_
  refine lv_to (y := nI (i + 2)) (nI_add i 2) ?_
  refine va_sld hx hb hX0 hbl (Nat.not_le.mpr hbl) G.2.2 (i := nI (i + 2)) (vp_in_nI (n := i + 2) (N := L) (by omega) (by omega)) dL_law_1766 ?_
  refine lv_to (y := xs (i + 2)) (congrArg xs (nI_clamp (by omega))) ?_
  refine lv_aload_n hx hb dL_law_1767 rfl (lv_at hl 5 rfl) ?_
  refine lv_iload hx hb dL_law_1768 (lv_at hl 0 rfl) ?_
  refine lv_iconst (v := 3) hx hb dL_law_1770 (by decide) ?_
  refine lv_iadd hx hb dL_law_1771 ?_
  refine lv_to (y := nI (i + 3)) (nI_add i 3) ?_
  refine va_sld hx hb hX0 hbl (Nat.not_le.mpr hbl) G.2.2 (i := nI (i + 3)) (vp_in_nI (n := i + 3) (N := L) (by omega) (by omega)) dL_law_1772 ?_
  refine lv_to (y := xs (i + 3)) (congrArg xs (nI_clamp (by omega))) ?_
  refine lv_aload_n hx hb dL_law_1773 rfl (lv_at hl 2 rfl) ?_
  obtain ⟨⟨k1, r1, T1⟩, hg, hc⟩ := cs_X11_bestLag T 0 (xs (i + 1)) (xs (i + 2)) (xs (i + 3)) hV (by decide +kernel)
  have hV1 : IV aR0 1586 aK1 aK2 T1 := hc.1.1
  have hg1 := s_X11_bestLag hg
  have hg2 := sg_le hg1
  have hg3 := hg1.1
  have hk := hV1.2.2.2.2.2.2
  have hrc1 := hg1.2.2 hrc
  have hr0 := a_room
  refine l_v (h0 := s.heap.size) (As := [.ref (ad 0), .int (xs (i + 1)), .int (xs (i + 2)), .int (xs (i + 3)), .ref aj]) (rest := []) E G hA hX hN (fun _ h => h) hTS hml (v_bestLag l hst D s.heap.size ad T 0 (xs (i + 1)) (xs (i + 2)) (xs (i + 3)) aj f hg hrc h0T h0s) (vx_cwSW 5 hts (glA (L := [Cond.methodLink RL 345 yL_bestLag, Cond.static yL_bestLag, Cond.initialized RL]) (gl_in [(7, 13), (7, 14), (1, 0)] (by decide +kernel) (by decide +kernel)) ⟨(t_of [Cond.codeWith yL_bestLag cL_bestLag 6 (some .int) [(0, 12, 15, 21), (0, 12, 19, 13), (0, 12, 23, 15)]] [(7, 15)] (by decide +kernel) _ List.mem_cons_self), List.all_eq_true.mp (by decide +kernel : [Cond.codeWith yL_bestLag cL_bestLag 6 (some .int) [(0, 12, 15, 21), (0, 12, 19, 13), (0, 12, 23, 15)]].all goodWord = true) _ List.mem_cons_self⟩) rfl rfl rfl (by decide +kernel) ⟨Nat.le_of_ble_eq_true rfl, Nat.le_of_ble_eq_true rfl⟩) rfl hl.1 rfl (lv_room (Nat.le_of_ble_eq_true rfl)) dL_law_1774 ⟨by show _ ≤ 601024; omega, by show _ ≤ 7293034; omega⟩ ?_
  intro ad2 H locs had G
  rw [← had 0 h0T] at hl
  refine lv_istore (lv' := [(6, .int (vck 1 2 3 k1)), (5, .int (nI i)), (4, .ref ae), (3, .ref aj), (2, .ref (am 0)), (1, .ref (ad2 0)), (0, .ref b)]) hx hb dL_law_1777 hl (by decide) rfl (fun ls hl => ?_)
  refine lv_aload_n hx hb dL_law_1779 rfl (lv_at hl 4 rfl) ?_
  refine lv_aload_n hx hb dL_law_1780 rfl (lv_at hl 6 rfl) ?_
  refine lv_iload hx hb dL_law_1781 (lv_at hl 1 rfl) ?_
  refine lv_iconst (v := 1) hx hb dL_law_1783 (by decide) ?_
  refine lv_iadd hx hb dL_law_1784 ?_
  refine lv_to (y := nI (i + 1)) (nI_add i 1) ?_
  refine va_sld hx hb hX0 hbl (Nat.not_le.mpr hbl) G.2.2 (i := nI (i + 1)) (vp_in_nI (n := i + 1) (N := L) (by omega) (by omega)) dL_law_1785 ?_
  refine lv_to (y := xs (i + 1)) (congrArg xs (nI_clamp (by omega))) ?_
  refine lv_aload_n hx hb dL_law_1786 rfl (lv_at hl 6 rfl) ?_
  refine lv_iload hx hb dL_law_1787 (lv_at hl 1 rfl) ?_
  refine lv_iconst (v := 2) hx hb dL_law_1789 (by decide) ?_
  refine lv_iadd hx hb dL_law_1790 ?_
  refine lv_to (y := nI (i + 2)) (nI_add i 2) ?_
  refine va_sld hx hb hX0 hbl (Nat.not_le.mpr hbl) G.2.2 (i := nI (i + 2)) (vp_in_nI (n := i + 2) (N := L) (by omega) (by omega)) dL_law_1791 ?_
  refine lv_to (y := xs (i + 2)) (congrArg xs (nI_clamp (by omega))) ?_
  refine lv_aload_n hx hb dL_law_1792 rfl (lv_at hl 6 rfl) ?_
  refine lv_iload hx hb dL_law_1793 (lv_at hl 1 rfl) ?_
  refine lv_iconst (v := 3) hx hb dL_law_1795 (by decide) ?_
  refine lv_iadd hx hb dL_law_1796 ?_
  refine lv_to (y := nI (i + 3)) (nI_add i 3) ?_
  refine va_sld hx hb hX0 hbl (Nat.not_le.mpr hbl) G.2.2 (i := nI (i + 3)) (vp_in_nI (n := i + 3) (N := L) (by omega) (by omega)) dL_law_1797 ?_
  refine lv_to (y := xs (i + 3)) (congrArg xs (nI_clamp (by omega))) ?_
  obtain ⟨⟨r2, S1⟩, hf, hj⟩ := sj_bestLag Sm (xs (i + 1)) (xs (i + 2)) (xs (i + 3)) hJ
  have hJ1 : JJ S1 := hj
  refine y_mi (As := [.int (xs (i + 1)), .int (xs (i + 2)), .int (xs (i + 3))]) (rest := []) E G hA hX.2.2.2.2 hml (tr_bestLag l D cI cJ cZ am Sm (xs (i + 1)) (xs (i + 2)) (xs (i + 3)) hf) (cwV 3 hts (glM (L := [Cond.methodLink RL 347 yX12_bestLag, Cond.instanceMethod yX12_bestLag, Cond.selects RX12 yX12_bestLag yX12_bestLag, Cond.initialized RX12]) (gl_in [(10, 108), (10, 109), (10, 110), (1, 14)] (by decide +kernel) (by decide +kernel)) ⟨(t_of [Cond.code yX12_bestLag cX12_bestLag 6 (some .int)] [(10, 111)] (by decide +kernel) _ List.mem_cons_self), List.all_eq_true.mp (by decide +kernel : [Cond.code yX12_bestLag cX12_bestLag 6 (some .int)].all goodWord = true) _ List.mem_cons_self⟩) rfl rfl rfl (by decide +kernel) ⟨Nat.le_of_ble_eq_true rfl, Nat.le_of_ble_eq_true rfl⟩) rfl hl.1 rfl (lv_room (Nat.le_of_ble_eq_true rfl)) dL_law_1798 ⟨by show _ ≤ 601024; omega, by show _ ≤ 7293034; omega⟩ (fun H locs G => ?_)
  refine lv_istore (lv' := [(7, .int r2), (6, .int (vck 1 2 3 k1)), (5, .int (nI i)), (4, .ref ae), (3, .ref aj), (2, .ref (am 0)), (1, .ref (ad2 0)), (0, .ref b)]) hx hb dL_law_1801 hl (by decide) rfl (fun ls hl => ?_)
  refine lv_goto (tgt := 2439) hx hb dL_law_1803 (by decide) ?_
  have hl := lv_sub hl [2, 3, 4, 5, 6, 7] rfl
  refine W.widen (k := 19 + T1.1 + (j + 1)) (n := 38467 + sg T1 + 6 * (j + 1)) (by omega) (by omega) ?_
  exact kk ad2 (vfJ k1 f r1.toInt64) g H locs ls hg hf (had 0 h0T) hV1 hrc1 hJ1 G hl
set_option maxHeartbeats 4000000 in
set_option maxRecDepth 100000 in
theorem y_a45 {p : Program} {e : Env} {s : State} {m : MethodId} {below : List Frame} {meth : Method} {c : Code} (l : Launch) (hst : l.stackTraces = false) {b L : Nat} {xs : Nat → Int32} (hx : p.tables.exec = Jvm.exec) (hb : c.code = code) (hml : c.maxLocals = 9) (hown : s.vm.findClass RL = some m.cls) (hts : ∀ w ∈ lw_tbl, w.before #[Value.ref b] s = true) (hX0 : va_X b L xs s s.heap) (hbl : b < s.heap.size) (hX : xT (fun q => s.heap.size ≤ q) s) (hN : nC s) (hTS : sAll s.heap.size s) {D : va_G} {cI cJ cZ cMic cSrc cSt cAI cAJ cD : ClassId} (hK : va_K D vwCl (CT cI cJ cZ cMic cSrc cSt cAI cAJ ++ [(cD, .double)]) s) {Q : State → Prop} {i j : Nat} (hi : i + 6 ≤ L) (hL : L ≤ 3072) (hj : j < 512) {aj ae : Nat} {ad am : Nat → Nat} {T : AT} {Sm : MS} {f : Nat → Int64} {g : Nat → UInt64} {ls : Array Slot} {H : Heap} {locs : List Loc} (hV : IV aR0 1586 aK1 aK2 T) (hrc : RC T) (hJ : JJ Sm) (G : gL cI cJ cZ cMic cSrc cSt cAI cAJ D ad (fun q => s.heap.size ≤ q) s.heap H locs T (oJ aj cJ f :: oD ae cD g :: MW cI cJ cZ am Sm)) (hl : lv_has ls 9 [(5, .int (nI i)), (4, .ref ae), (3, .ref aj), (2, .ref (am 0)), (1, .ref (ad 0)), (0, .ref b)]) (kk : ∀ {k1 : Nat} {r1 : Int64} {T1 : AT} {r2 : Int64} {S1 : MS} (ad2 : Nat → Nat) (f1 : Nat → Int64) (g1 : Nat → UInt64) (H1 : Heap) (locs1 : List Loc) (ls1 : Array Slot), g_X11_level T 0 (xs (i + 1)) = some (k1, r1, T1) → fr_level Sm (xs (i + 1)) = some (r2, S1) → ad2 0 = ad 0 → IV aR0 1586 aK1 aK2 T1 → RC T1 → JJ S1 → gL cI cJ cZ cMic cSrc cSt cAI cAJ D ad2 (fun q => s.heap.size ≤ q) s.heap H1 locs1 T1 (oJ aj cJ f1 :: oD ae cD g1 :: MW cI cJ cZ am S1) → lv_has ls1 9 [(5, .int (nI i)), (4, .ref ae), (3, .ref aj), (2, .ref (am 0)), (1, .ref (ad2 0)), (0, .ref b)] → W p l e room_1 s m #[Value.ref b] below meth c H1 locs1 (19 + T1.1 + (j + 1)) (38467 + sg T1 + 6 * (j + 1)) Q (F0 m 2439 ls1 [])) : W p l e room_1 s m #[Value.ref b] below meth c H locs (19 + T.1 + j) (38467 + sg T + 6 * j) Q (F0 m 1806 ls []) := by
  have E : cE p c cL_law s m #[Value.ref b] lw_tbl D RL (CT cI cJ cZ cMic cSrc cSt cAI cAJ ++ [(cD, .double)]) := ⟨hx, hb, hts, hown, hK⟩
  have hA : ∀ q : Nat, s.heap.size ≤ q → s.heap.size ≤ q := fun _ h => h
  have h0T : 0 < T.1 := Nat.lt_of_lt_of_le (by decide) hV.1.2.2
  have h0s : T.2.1 0 = (11, 0) := hV.2.1 0 ⟨by decide, by decide +kernel, by decide +kernel⟩
  refine lv_aload_n hx hb dL_law_1806 rfl (lv_at hl 4 rfl) ?_
  refine lv_aload_n hx hb dL_law_1807 rfl (lv_at hl 5 rfl) ?_
  refine lv_iload hx hb dL_law_1808 (lv_at hl 0 rfl) ?_
  refine lv_iconst (v := 1) hx hb dL_law_1810 (by decide) ?_
  refine lv_iadd hx hb dL_law_1811 ?_
  refine lv_to (y := nI (i + 1)) (nI_add i 1) ?_
  refine va_sld hx hb hX0 hbl (Nat.not_le.mpr hbl) G.2.2 (i := nI (i + 1)) (vp_in_nI (n := i + 1) (N := L) (by omega) (by omega)) dL_law_1812 ?_
  refine lv_to (y := xs (i + 1)) (congrArg xs (nI_clamp (by omega))) ?_
  refine lv_aload_n hx hb dL_law_1813 rfl (lv_at hl 2 rfl) ?_
  obtain ⟨⟨k1, r1, T1⟩, hg, hc⟩ := cs_X11_level T 0 (xs (i + 1)) hV (by decide +kernel)
  have hV1 : IV aR0 1586 aK1 aK2 T1 := hc.1.1
  have hg1 := s_X11_level hg
  have hg2 := sg_le hg1
  have hg3 := hg1.1
  have hk := hV1.2.2.2.2.2.2
  have hrc1 := hg1.2.2 hrc
  have hr0 := a_room
  refine l_v (h0 := s.heap.size) (As := [.ref (ad 0), .int (xs (i + 1)), .ref aj]) (rest := []) E G hA hX hN (fun _ h => h) hTS hml (v_level l hst D s.heap.size ad T 0 (xs (i + 1)) aj f hg hrc h0T h0s) (vx_cwSW 3 hts (glA (L := [Cond.methodLink RL 348 yL_level, Cond.static yL_level, Cond.initialized RL]) (gl_in [(7, 20), (7, 21), (1, 0)] (by decide +kernel) (by decide +kernel)) ⟨(t_of [Cond.codeWith yL_level cL_level 4 (some .int) [(0, 8, 11, 21), (0, 8, 14, 13)]] [(7, 22)] (by decide +kernel) _ List.mem_cons_self), List.all_eq_true.mp (by decide +kernel : [Cond.codeWith yL_level cL_level 4 (some .int) [(0, 8, 11, 21), (0, 8, 14, 13)]].all goodWord = true) _ List.mem_cons_self⟩) rfl rfl rfl (by decide +kernel) ⟨Nat.le_of_ble_eq_true rfl, Nat.le_of_ble_eq_true rfl⟩) rfl hl.1 rfl (lv_room (Nat.le_of_ble_eq_true rfl)) dL_law_1814 ⟨by show _ ≤ 601024; omega, by show _ ≤ 7293034; omega⟩ ?_
  intro ad2 H locs had G
  rw [← had 0 h0T] at hl
  refine lv_istore (lv' := [(6, .int (vck 1 2 0 k1)), (5, .int (nI i)), (4, .ref ae), (3, .ref aj), (2, .ref (am 0)), (1, .ref (ad2 0)), (0, .ref b)]) hx hb dL_law_1817 hl (by decide) rfl (fun ls hl => ?_)
  refine lv_aload_n hx hb dL_law_1819 rfl (lv_at hl 4 rfl) ?_
  refine lv_aload_n hx hb dL_law_1820 rfl (lv_at hl 6 rfl) ?_
  refine lv_iload hx hb dL_law_1821 (lv_at hl 1 rfl) ?_
  refine lv_iconst (v := 1) hx hb dL_law_1823 (by decide) ?_
  refine lv_iadd hx hb dL_law_1824 ?_
  refine lv_to (y := nI (i + 1)) (nI_add i 1) ?_
  refine va_sld hx hb hX0 hbl (Nat.not_le.mpr hbl) G.2.2 (i := nI (i + 1)) (vp_in_nI (n := i + 1) (N := L) (by omega) (by omega)) dL_law_1825 ?_
  refine lv_to (y := xs (i + 1)) (congrArg xs (nI_clamp (by omega))) ?_
  obtain ⟨⟨r2, S1⟩, hf, hj⟩ := sj_level Sm (xs (i + 1)) hJ
  have hJ1 : JJ S1 := hj
  refine y_ml (As := [.int (xs (i + 1))]) (rest := []) E G hA hX.2.2.2.2 hml (tr_level l D cI cJ cZ am Sm (xs (i + 1)) hf) (cwV 1 hts (glM (L := [Cond.methodLink RL 350 yX12_level, Cond.instanceMethod yX12_level, Cond.selects RX12 yX12_level yX12_level, Cond.initialized RX12]) (gl_in [(10, 112), (10, 113), (10, 114), (1, 14)] (by decide +kernel) (by decide +kernel)) ⟨(t_of [Cond.code yX12_level cX12_level 2 (some .long)] [(10, 115)] (by decide +kernel) _ List.mem_cons_self), List.all_eq_true.mp (by decide +kernel : [Cond.code yX12_level cX12_level 2 (some .long)].all goodWord = true) _ List.mem_cons_self⟩) rfl rfl rfl (by decide +kernel) ⟨Nat.le_of_ble_eq_true rfl, Nat.le_of_ble_eq_true rfl⟩) rfl hl.1 rfl (lv_room (Nat.le_of_ble_eq_true rfl)) dL_law_1826 ⟨by show _ ≤ 601024; omega, by show _ ≤ 7293034; omega⟩ (fun H locs G => ?_)
  refine lv_lstore (lv' := [(7, .long r2), (6, .int (vck 1 2 0 k1)), (5, .int (nI i)), (4, .ref ae), (3, .ref aj), (2, .ref (am 0)), (1, .ref (ad2 0)), (0, .ref b)]) hx hb dL_law_1829 hl (by decide) rfl (fun ls hl => ?_)
  refine lv_goto (tgt := 2439) hx hb dL_law_1831 (by decide) ?_
  have hl := lv_sub hl [2, 3, 4, 5, 6, 7] rfl
  refine W.widen (k := 19 + T1.1 + (j + 1)) (n := 38467 + sg T1 + 6 * (j + 1)) (by omega) (by omega) ?_
  exact kk ad2 (vfJ k1 f r1) g H locs ls hg hf (had 0 h0T) hV1 hrc1 hJ1 G hl
set_option maxHeartbeats 4000000 in
set_option maxRecDepth 100000 in
theorem y_a46 {p : Program} {e : Env} {s : State} {m : MethodId} {below : List Frame} {meth : Method} {c : Code} (l : Launch) (hst : l.stackTraces = false) {b L : Nat} {xs : Nat → Int32} (hx : p.tables.exec = Jvm.exec) (hb : c.code = code) (hml : c.maxLocals = 9) (hown : s.vm.findClass RL = some m.cls) (hts : ∀ w ∈ lw_tbl, w.before #[Value.ref b] s = true) (hX0 : va_X b L xs s s.heap) (hbl : b < s.heap.size) (hX : xT (fun q => s.heap.size ≤ q) s) (hN : nC s) (hTS : sAll s.heap.size s) {D : va_G} {cI cJ cZ cMic cSrc cSt cAI cAJ cD : ClassId} (hK : va_K D vwCl (CT cI cJ cZ cMic cSrc cSt cAI cAJ ++ [(cD, .double)]) s) {Q : State → Prop} {i j : Nat} (hi : i + 6 ≤ L) (hL : L ≤ 3072) (hj : j < 512) {aj ae : Nat} {ad am : Nat → Nat} {T : AT} {Sm : MS} {f : Nat → Int64} {g : Nat → UInt64} {ls : Array Slot} {H : Heap} {locs : List Loc} (hV : IV aR0 1586 aK1 aK2 T) (hrc : RC T) (hJ : JJ Sm) (G : gL cI cJ cZ cMic cSrc cSt cAI cAJ D ad (fun q => s.heap.size ≤ q) s.heap H locs T (oJ aj cJ f :: oD ae cD g :: MW cI cJ cZ am Sm)) (hl : lv_has ls 9 [(5, .int (nI i)), (4, .ref ae), (3, .ref aj), (2, .ref (am 0)), (1, .ref (ad 0)), (0, .ref b)]) (kk : ∀ {k1 : Nat} {r1 : Int32} {T1 : AT} {r2 : Int32} {S1 : MS} (ad2 : Nat → Nat) (f1 : Nat → Int64) (g1 : Nat → UInt64) (H1 : Heap) (locs1 : List Loc) (ls1 : Array Slot), g_X11_loudest T 0 (xs (i + 1)) = some (k1, r1, T1) → fr_loudest Sm (xs (i + 1)) = some (r2, S1) → ad2 0 = ad 0 → IV aR0 1586 aK1 aK2 T1 → RC T1 → JJ S1 → gL cI cJ cZ cMic cSrc cSt cAI cAJ D ad2 (fun q => s.heap.size ≤ q) s.heap H1 locs1 T1 (oJ aj cJ f1 :: oD ae cD g1 :: MW cI cJ cZ am S1) → lv_has ls1 9 [(5, .int (nI i)), (4, .ref ae), (3, .ref aj), (2, .ref (am 0)), (1, .ref (ad2 0)), (0, .ref b)] → W p l e room_1 s m #[Value.ref b] below meth c H1 locs1 (19 + T1.1 + (j + 1)) (38467 + sg T1 + 6 * (j + 1)) Q (F0 m 2439 ls1 [])) : W p l e room_1 s m #[Value.ref b] below meth c H locs (19 + T.1 + j) (38467 + sg T + 6 * j) Q (F0 m 1834 ls []) := by
  have E : cE p c cL_law s m #[Value.ref b] lw_tbl D RL (CT cI cJ cZ cMic cSrc cSt cAI cAJ ++ [(cD, .double)]) := ⟨hx, hb, hts, hown, hK⟩
  have hA : ∀ q : Nat, s.heap.size ≤ q → s.heap.size ≤ q := fun _ h => h
  have h0T : 0 < T.1 := Nat.lt_of_lt_of_le (by decide) hV.1.2.2
  have h0s : T.2.1 0 = (11, 0) := hV.2.1 0 ⟨by decide, by decide +kernel, by decide +kernel⟩
  refine lv_aload_n hx hb dL_law_1834 rfl (lv_at hl 4 rfl) ?_
  refine lv_aload_n hx hb dL_law_1835 rfl (lv_at hl 5 rfl) ?_
  refine lv_iload hx hb dL_law_1836 (lv_at hl 0 rfl) ?_
  refine lv_iconst (v := 1) hx hb dL_law_1838 (by decide) ?_
  refine lv_iadd hx hb dL_law_1839 ?_
  refine lv_to (y := nI (i + 1)) (nI_add i 1) ?_
  refine va_sld hx hb hX0 hbl (Nat.not_le.mpr hbl) G.2.2 (i := nI (i + 1)) (vp_in_nI (n := i + 1) (N := L) (by omega) (by omega)) dL_law_1840 ?_
  refine lv_to (y := xs (i + 1)) (congrArg xs (nI_clamp (by omega))) ?_
  refine lv_aload_n hx hb dL_law_1841 rfl (lv_at hl 2 rfl) ?_
  obtain ⟨⟨k1, r1, T1⟩, hg, hc⟩ := cs_X11_loudest T 0 (xs (i + 1)) hV (by decide +kernel)
  have hV1 : IV aR0 1586 aK1 aK2 T1 := hc.1.1
  have hg1 := s_X11_loudest hg
  have hg2 := sg_le hg1
  have hg3 := hg1.1
  have hk := hV1.2.2.2.2.2.2
  have hrc1 := hg1.2.2 hrc
  have hr0 := a_room
  refine l_v (h0 := s.heap.size) (As := [.ref (ad 0), .int (xs (i + 1)), .ref aj]) (rest := []) E G hA hX hN (fun _ h => h) hTS hml (v_loudest l hst D s.heap.size ad T 0 (xs (i + 1)) aj f hg hrc h0T h0s) (vx_cwSW 3 hts (glA (L := [Cond.methodLink RL 351 yL_loudest, Cond.static yL_loudest, Cond.initialized RL]) (gl_in [(7, 31), (7, 32), (1, 0)] (by decide +kernel) (by decide +kernel)) ⟨(t_of [Cond.codeWith yL_loudest cL_loudest 4 (some .int) [(0, 9, 12, 21), (0, 9, 15, 13)]] [(7, 33)] (by decide +kernel) _ List.mem_cons_self), List.all_eq_true.mp (by decide +kernel : [Cond.codeWith yL_loudest cL_loudest 4 (some .int) [(0, 9, 12, 21), (0, 9, 15, 13)]].all goodWord = true) _ List.mem_cons_self⟩) rfl rfl rfl (by decide +kernel) ⟨Nat.le_of_ble_eq_true rfl, Nat.le_of_ble_eq_true rfl⟩) rfl hl.1 rfl (lv_room (Nat.le_of_ble_eq_true rfl)) dL_law_1842 ⟨by show _ ≤ 601024; omega, by show _ ≤ 7293034; omega⟩ ?_
  intro ad2 H locs had G
  rw [← had 0 h0T] at hl
  refine lv_istore (lv' := [(6, .int (vck 1 2 0 k1)), (5, .int (nI i)), (4, .ref ae), (3, .ref aj), (2, .ref (am 0)), (1, .ref (ad2 0)), (0, .ref b)]) hx hb dL_law_1845 hl (by decide) rfl (fun ls hl => ?_)
  refine lv_aload_n hx hb dL_law_1847 rfl (lv_at hl 4 rfl) ?_
  refine lv_aload_n hx hb dL_law_1848 rfl (lv_at hl 6 rfl) ?_
  refine lv_iload hx hb dL_law_1849 (lv_at hl 1 rfl) ?_
  refine lv_iconst (v := 1) hx hb dL_law_1851 (by decide) ?_
  refine lv_iadd hx hb dL_law_1852 ?_
  refine lv_to (y := nI (i + 1)) (nI_add i 1) ?_
  refine va_sld hx hb hX0 hbl (Nat.not_le.mpr hbl) G.2.2 (i := nI (i + 1)) (vp_in_nI (n := i + 1) (N := L) (by omega) (by omega)) dL_law_1853 ?_
  refine lv_to (y := xs (i + 1)) (congrArg xs (nI_clamp (by omega))) ?_
  obtain ⟨⟨r2, S1⟩, hf, hj⟩ := sj_loudest Sm (xs (i + 1)) hJ
  have hJ1 : JJ S1 := hj
  refine y_mi (As := [.int (xs (i + 1))]) (rest := []) E G hA hX.2.2.2.2 hml (tr_loudest l D cI cJ cZ am Sm (xs (i + 1)) hf) (cwV 1 hts (glM (L := [Cond.methodLink RL 353 yX12_loudest, Cond.instanceMethod yX12_loudest, Cond.selects RX12 yX12_loudest yX12_loudest, Cond.initialized RX12]) (gl_in [(10, 120), (10, 121), (10, 122), (1, 14)] (by decide +kernel) (by decide +kernel)) ⟨(t_of [Cond.code yX12_loudest cX12_loudest 5 (some .int)] [(10, 123)] (by decide +kernel) _ List.mem_cons_self), List.all_eq_true.mp (by decide +kernel : [Cond.code yX12_loudest cX12_loudest 5 (some .int)].all goodWord = true) _ List.mem_cons_self⟩) rfl rfl rfl (by decide +kernel) ⟨Nat.le_of_ble_eq_true rfl, Nat.le_of_ble_eq_true rfl⟩) rfl hl.1 rfl (lv_room (Nat.le_of_ble_eq_true rfl)) dL_law_1854 ⟨by show _ ≤ 601024; omega, by show _ ≤ 7293034; omega⟩ (fun H locs G => ?_)
  refine lv_istore (lv' := [(7, .int r2), (6, .int (vck 1 2 0 k1)), (5, .int (nI i)), (4, .ref ae), (3, .ref aj), (2, .ref (am 0)), (1, .ref (ad2 0)), (0, .ref b)]) hx hb dL_law_1857 hl (by decide) rfl (fun ls hl => ?_)
  refine lv_goto (tgt := 2439) hx hb dL_law_1859 (by decide) ?_
  have hl := lv_sub hl [2, 3, 4, 5, 6, 7] rfl
  refine W.widen (k := 19 + T1.1 + (j + 1)) (n := 38467 + sg T1 + 6 * (j + 1)) (by omega) (by omega) ?_
  exact kk ad2 (vfJ k1 f r1.toInt64) g H locs ls hg hf (had 0 h0T) hV1 hrc1 hJ1 G hl
set_option maxHeartbeats 4000000 in
set_option maxRecDepth 100000 in
theorem y_a47 {p : Program} {e : Env} {s : State} {m : MethodId} {below : List Frame} {meth : Method} {c : Code} (l : Launch) (hst : l.stackTraces = false) {b L : Nat} {xs : Nat → Int32} (hx : p.tables.exec = Jvm.exec) (hb : c.code = code) (hml : c.maxLocals = 9) (hown : s.vm.findClass RL = some m.cls) (hts : ∀ w ∈ lw_tbl, w.before #[Value.ref b] s = true) (hX0 : va_X b L xs s s.heap) (hbl : b < s.heap.size) (hX : xT (fun q => s.heap.size ≤ q) s) (hN : nC s) (hTS : sAll s.heap.size s) {D : va_G} {cI cJ cZ cMic cSrc cSt cAI cAJ cD : ClassId} (hK : va_K D vwCl (CT cI cJ cZ cMic cSrc cSt cAI cAJ ++ [(cD, .double)]) s) {Q : State → Prop} {i j : Nat} (hi : i + 6 ≤ L) (hL : L ≤ 3072) (hj : j < 512) {aj ae : Nat} {ad am : Nat → Nat} {T : AT} {Sm : MS} {f : Nat → Int64} {g : Nat → UInt64} {ls : Array Slot} {H : Heap} {locs : List Loc} (hV : IV aR0 1586 aK1 aK2 T) (hrc : RC T) (hJ : JJ Sm) (G : gL cI cJ cZ cMic cSrc cSt cAI cAJ D ad (fun q => s.heap.size ≤ q) s.heap H locs T (oJ aj cJ f :: oD ae cD g :: MW cI cJ cZ am Sm)) (hl : lv_has ls 9 [(5, .int (nI i)), (4, .ref ae), (3, .ref aj), (2, .ref (am 0)), (1, .ref (ad 0)), (0, .ref b)]) (kk : ∀ {k1 : Nat} {r1 : Int32} {T1 : AT} {r2 : Int32} {S1 : MS} (ad2 : Nat → Nat) (f1 : Nat → Int64) (g1 : Nat → UInt64) (H1 : Heap) (locs1 : List Loc) (ls1 : Array Slot), g_X11_writeMap T 0 = some (k1, r1, T1) → fr_writeMap Sm = some (r2, S1) → ad2 0 = ad 0 → IV aR0 1586 aK1 aK2 T1 → RC T1 → JJ S1 → gL cI cJ cZ cMic cSrc cSt cAI cAJ D ad2 (fun q => s.heap.size ≤ q) s.heap H1 locs1 T1 (oJ aj cJ f1 :: oD ae cD g1 :: MW cI cJ cZ am S1) → lv_has ls1 9 [(5, .int (nI i)), (4, .ref ae), (3, .ref aj), (2, .ref (am 0)), (1, .ref (ad2 0)), (0, .ref b)] → W p l e room_1 s m #[Value.ref b] below meth c H1 locs1 (19 + T1.1 + (j + 1)) (38467 + sg T1 + 6 * (j + 1)) Q (F0 m 2439 ls1 [])) : W p l e room_1 s m #[Value.ref b] below meth c H locs (19 + T.1 + j) (38467 + sg T + 6 * j) Q (F0 m 1862 ls []) := by
  have E : cE p c cL_law s m #[Value.ref b] lw_tbl D RL (CT cI cJ cZ cMic cSrc cSt cAI cAJ ++ [(cD, .double)]) := ⟨hx, hb, hts, hown, hK⟩
  have hA : ∀ q : Nat, s.heap.size ≤ q → s.heap.size ≤ q := fun _ h => h
  have h0T : 0 < T.1 := Nat.lt_of_lt_of_le (by decide) hV.1.2.2
  have h0s : T.2.1 0 = (11, 0) := hV.2.1 0 ⟨by decide, by decide +kernel, by decide +kernel⟩
  refine lv_aload_n hx hb dL_law_1862 rfl (lv_at hl 4 rfl) ?_
  refine lv_aload_n hx hb dL_law_1863 rfl (lv_at hl 2 rfl) ?_
  obtain ⟨⟨k1, r1, T1⟩, hg, hc⟩ := cs_X11_writeMap T 0 hV (by decide +kernel)
  have hV1 : IV aR0 1586 aK1 aK2 T1 := hc.1.1
  have hg1 := s_X11_writeMap hg
  have hg2 := sg_le hg1
  have hg3 := hg1.1
  have hk := hV1.2.2.2.2.2.2
  have hrc1 := hg1.2.2 hrc
  have hr0 := a_room
  refine l_v (h0 := s.heap.size) (As := [.ref (ad 0), .ref aj]) (rest := []) E G hA hX hN (fun _ h => h) hTS hml (v_writeMap l hst D s.heap.size ad T 0  aj f hg hrc h0T h0s) (vx_cwSW 2 hts (glA (L := [Cond.methodLink RL 354 yL_writeMap, Cond.static yL_writeMap, Cond.initialized RL]) (gl_in [(7, 39), (7, 40), (1, 0)] (by decide +kernel) (by decide +kernel)) ⟨(t_of [Cond.codeWith yL_writeMap cL_writeMap 3 (some .int) [(0, 8, 11, 21)]] [(7, 41)] (by decide +kernel) _ List.mem_cons_self), List.all_eq_true.mp (by decide +kernel : [Cond.codeWith yL_writeMap cL_writeMap 3 (some .int) [(0, 8, 11, 21)]].all goodWord = true) _ List.mem_cons_self⟩) rfl rfl rfl (by decide +kernel) ⟨Nat.le_of_ble_eq_true rfl, Nat.le_of_ble_eq_true rfl⟩) rfl hl.1 rfl (lv_room (Nat.le_of_ble_eq_true rfl)) dL_law_1864 ⟨by show _ ≤ 601024; omega, by show _ ≤ 7293034; omega⟩ ?_
  intro ad2 H locs had G
  rw [← had 0 h0T] at hl
  refine lv_istore (lv' := [(6, .int (vck 1 0 0 k1)), (5, .int (nI i)), (4, .ref ae), (3, .ref aj), (2, .ref (am 0)), (1, .ref (ad2 0)), (0, .ref b)]) hx hb dL_law_1867 hl (by decide) rfl (fun ls hl => ?_)
  refine lv_aload_n hx hb dL_law_1869 rfl (lv_at hl 4 rfl) ?_
  obtain ⟨⟨r2, S1⟩, hf, hj⟩ := sj_writeMap Sm hJ
  have hJ1 : JJ S1 := hj
  refine y_mi (As := []) (rest := []) E G hA hX.2.2.2.2 hml (tr_writeMap l D cI cJ cZ am Sm  hf) (cwV 0 hts (glM (L := [Cond.methodLink RL 356 yX12_writeMap, Cond.instanceMethod yX12_writeMap, Cond.selects RX12 yX12_writeMap yX12_writeMap, Cond.initialized RX12]) (gl_in [(10, 124), (10, 125), (10, 126), (1, 14)] (by decide +kernel) (by decide +kernel)) ⟨(t_of [Cond.code yX12_writeMap cX12_writeMap 4 (some .int)] [(10, 127)] (by decide +kernel) _ List.mem_cons_self), List.all_eq_true.mp (by decide +kernel : [Cond.code yX12_writeMap cX12_writeMap 4 (some .int)].all goodWord = true) _ List.mem_cons_self⟩) rfl rfl rfl (by decide +kernel) ⟨Nat.le_of_ble_eq_true rfl, Nat.le_of_ble_eq_true rfl⟩) rfl hl.1 rfl (lv_room (Nat.le_of_ble_eq_true rfl)) dL_law_1870 ⟨by show _ ≤ 601024; omega, by show _ ≤ 7293034; omega⟩ (fun H locs G => ?_)
  refine lv_istore (lv' := [(7, .int r2), (6, .int (vck 1 0 0 k1)), (5, .int (nI i)), (4, .ref ae), (3, .ref aj), (2, .ref (am 0)), (1, .ref (ad2 0)), (0, .ref b)]) hx hb dL_law_1873 hl (by decide) rfl (fun ls hl => ?_)
  refine lv_goto (tgt := 2439) hx hb dL_law_1875 (by decide) ?_
  have hl := lv_sub hl [2, 3, 4, 5, 6, 7] rfl
  refine W.widen (k := 19 + T1.1 + (j + 1)) (n := 38467 + sg T1 + 6 * (j + 1)) (by omega) (by omega) ?_
  exact kk ad2 (vfJ k1 f r1.toInt64) g H locs ls hg hf (had 0 h0T) hV1 hrc1 hJ1 G hl
