theorem dL_law_1410 : decode cL_law 1410 = .ok (.aload_n 1, 1) := by decide +kernel
theorem dL_law_1411 : decode cL_law 1411 = .ok (.aload_n 0, 1) := by decide +kernel
theorem dL_law_1412 : decode cL_law 1412 = .ok (.iload 5, 2) := by decide +kernel
theorem dL_law_1414 : decode cL_law 1414 = .ok (.iconst 1, 1) := by decide +kernel
theorem dL_law_1415 : decode cL_law 1415 = .ok (.iadd, 1) := by decide +kernel
theorem dL_law_1416 : decode cL_law 1416 = .ok (.iaload, 1) := by decide +kernel
theorem dL_law_1417 : decode cL_law 1417 = .ok (.aload_n 0, 1) := by decide +kernel
theorem dL_law_1418 : decode cL_law 1418 = .ok (.iload 5, 2) := by decide +kernel
theorem dL_law_1420 : decode cL_law 1420 = .ok (.iconst 2, 1) := by decide +kernel
theorem dL_law_1421 : decode cL_law 1421 = .ok (.iadd, 1) := by decide +kernel
theorem dL_law_1422 : decode cL_law 1422 = .ok (.iaload, 1) := by decide +kernel
theorem dL_law_1423 : decode cL_law 1423 = .ok (.aload_n 3, 1) := by decide +kernel
theorem dL_law_1424 : decode cL_law 1424 = .ok (.invokestatic 280, 3) := by decide +kernel
theorem dL_law_1427 : decode cL_law 1427 = .ok (.istore 6, 2) := by decide +kernel
theorem dL_law_1429 : decode cL_law 1429 = .ok (.aload_n 2, 1) := by decide +kernel
theorem dL_law_1430 : decode cL_law 1430 = .ok (.aload_n 0, 1) := by decide +kernel
theorem dL_law_1431 : decode cL_law 1431 = .ok (.iload 5, 2) := by decide +kernel
theorem dL_law_1433 : decode cL_law 1433 = .ok (.iconst 1, 1) := by decide +kernel
theorem dL_law_1434 : decode cL_law 1434 = .ok (.iadd, 1) := by decide +kernel
theorem dL_law_1435 : decode cL_law 1435 = .ok (.iaload, 1) := by decide +kernel
theorem dL_law_1436 : decode cL_law 1436 = .ok (.aload_n 0, 1) := by decide +kernel
theorem dL_law_1437 : decode cL_law 1437 = .ok (.iload 5, 2) := by decide +kernel
theorem dL_law_1439 : decode cL_law 1439 = .ok (.iconst 2, 1) := by decide +kernel
theorem dL_law_1440 : decode cL_law 1440 = .ok (.iadd, 1) := by decide +kernel
theorem dL_law_1441 : decode cL_law 1441 = .ok (.iaload, 1) := by decide +kernel
theorem dL_law_1442 : decode cL_law 1442 = .ok (.invokevirtual 282, 3) := by decide +kernel
theorem dL_law_1445 : decode cL_law 1445 = .ok (.lstore 7, 2) := by decide +kernel
theorem dL_law_1447 : decode cL_law 1447 = .ok (.aload_n 2, 1) := by decide +kernel
theorem dL_law_1448 : decode cL_law 1448 = .ok (.invokevirtual 204, 3) := by decide +kernel
theorem dL_law_1451 : decode cL_law 1451 = .ok (.iload 6, 2) := by decide +kernel
theorem dL_law_1453 : decode cL_law 1453 = .ok (.if_icmp .eq 5, 3) := by decide +kernel
theorem dL_law_1458 : decode cL_law 1458 = .ok (.iload 6, 2) := by decide +kernel
theorem dL_law_1460 : decode cL_law 1460 = .ok (.ifCond .ne 14, 3) := by decide +kernel
theorem dL_law_1474 : decode cL_law 1474 = .ok (.goto 2501, 3) := by decide +kernel
theorem dL_law_1477 : decode cL_law 1477 = .ok (.aload_n 1, 1) := by decide +kernel
theorem dL_law_1478 : decode cL_law 1478 = .ok (.aload_n 3, 1) := by decide +kernel
theorem dL_law_1479 : decode cL_law 1479 = .ok (.invokestatic 283, 3) := by decide +kernel
theorem dL_law_1482 : decode cL_law 1482 = .ok (.istore 6, 2) := by decide +kernel
theorem dL_law_1484 : decode cL_law 1484 = .ok (.aload_n 2, 1) := by decide +kernel
theorem dL_law_1485 : decode cL_law 1485 = .ok (.invokevirtual 286, 3) := by decide +kernel
theorem dL_law_1488 : decode cL_law 1488 = .ok (.istore 7, 2) := by decide +kernel
theorem dL_law_1490 : decode cL_law 1490 = .ok (.aload_n 2, 1) := by decide +kernel
theorem dL_law_1491 : decode cL_law 1491 = .ok (.invokevirtual 204, 3) := by decide +kernel
theorem dL_law_1494 : decode cL_law 1494 = .ok (.iload 6, 2) := by decide +kernel
theorem dL_law_1496 : decode cL_law 1496 = .ok (.if_icmp .eq 5, 3) := by decide +kernel
theorem dL_law_1501 : decode cL_law 1501 = .ok (.iload 6, 2) := by decide +kernel
theorem dL_law_1503 : decode cL_law 1503 = .ok (.ifCond .ne 15, 3) := by decide +kernel
theorem dL_law_1518 : decode cL_law 1518 = .ok (.goto 2457, 3) := by decide +kernel
theorem dL_law_1521 : decode cL_law 1521 = .ok (.aload_n 1, 1) := by decide +kernel
theorem dL_law_1522 : decode cL_law 1522 = .ok (.aload_n 3, 1) := by decide +kernel
theorem dL_law_1523 : decode cL_law 1523 = .ok (.invokestatic 287, 3) := by decide +kernel
theorem dL_law_1526 : decode cL_law 1526 = .ok (.istore 6, 2) := by decide +kernel
theorem dL_law_1528 : decode cL_law 1528 = .ok (.aload_n 2, 1) := by decide +kernel
theorem dL_law_1529 : decode cL_law 1529 = .ok (.invokevirtual 289, 3) := by decide +kernel
theorem dL_law_1532 : decode cL_law 1532 = .ok (.lstore 7, 2) := by decide +kernel
theorem dL_law_1534 : decode cL_law 1534 = .ok (.aload_n 2, 1) := by decide +kernel
theorem dL_law_1535 : decode cL_law 1535 = .ok (.invokevirtual 204, 3) := by decide +kernel
theorem dL_law_1538 : decode cL_law 1538 = .ok (.iload 6, 2) := by decide +kernel
theorem dL_law_1540 : decode cL_law 1540 = .ok (.if_icmp .eq 5, 3) := by decide +kernel
theorem dL_law_1545 : decode cL_law 1545 = .ok (.iload 6, 2) := by decide +kernel
theorem dL_law_1547 : decode cL_law 1547 = .ok (.ifCond .ne 14, 3) := by decide +kernel
theorem dL_law_1561 : decode cL_law 1561 = .ok (.goto 2414, 3) := by decide +kernel
theorem dL_law_1564 : decode cL_law 1564 = .ok (.aload_n 1, 1) := by decide +kernel
theorem dL_law_1565 : decode cL_law 1565 = .ok (.aload_n 3, 1) := by decide +kernel
theorem dL_law_1566 : decode cL_law 1566 = .ok (.invokestatic 290, 3) := by decide +kernel
theorem dL_law_1569 : decode cL_law 1569 = .ok (.istore 6, 2) := by decide +kernel
theorem dL_law_1571 : decode cL_law 1571 = .ok (.aload_n 2, 1) := by decide +kernel
theorem dL_law_1572 : decode cL_law 1572 = .ok (.invokevirtual 292, 3) := by decide +kernel
theorem dL_law_1575 : decode cL_law 1575 = .ok (.lstore 7, 2) := by decide +kernel
theorem dL_law_1577 : decode cL_law 1577 = .ok (.aload_n 2, 1) := by decide +kernel
theorem dL_law_1578 : decode cL_law 1578 = .ok (.invokevirtual 204, 3) := by decide +kernel
theorem dL_law_1581 : decode cL_law 1581 = .ok (.iload 6, 2) := by decide +kernel
theorem dL_law_1583 : decode cL_law 1583 = .ok (.if_icmp .eq 5, 3) := by decide +kernel
theorem dL_law_1588 : decode cL_law 1588 = .ok (.iload 6, 2) := by decide +kernel
theorem dL_law_1590 : decode cL_law 1590 = .ok (.ifCond .ne 14, 3) := by decide +kernel
theorem dL_law_1604 : decode cL_law 1604 = .ok (.goto 2371, 3) := by decide +kernel
theorem dL_law_1607 : decode cL_law 1607 = .ok (.aload_n 1, 1) := by decide +kernel
theorem dL_law_1608 : decode cL_law 1608 = .ok (.aload_n 3, 1) := by decide +kernel
theorem dL_law_1609 : decode cL_law 1609 = .ok (.invokestatic 293, 3) := by decide +kernel
theorem dL_law_1612 : decode cL_law 1612 = .ok (.istore 6, 2) := by decide +kernel
theorem dL_law_1614 : decode cL_law 1614 = .ok (.aload_n 2, 1) := by decide +kernel
theorem dL_law_1615 : decode cL_law 1615 = .ok (.invokevirtual 295, 3) := by decide +kernel
theorem dL_law_1618 : decode cL_law 1618 = .ok (.istore 7, 2) := by decide +kernel
theorem dL_law_1620 : decode cL_law 1620 = .ok (.aload_n 2, 1) := by decide +kernel
theorem dL_law_1621 : decode cL_law 1621 = .ok (.invokevirtual 204, 3) := by decide +kernel
theorem dL_law_1624 : decode cL_law 1624 = .ok (.iload 6, 2) := by decide +kernel
theorem dL_law_1626 : decode cL_law 1626 = .ok (.if_icmp .eq 5, 3) := by decide +kernel
theorem dL_law_1631 : decode cL_law 1631 = .ok (.iload 6, 2) := by decide +kernel
theorem dL_law_1633 : decode cL_law 1633 = .ok (.ifCond .ne 15, 3) := by decide +kernel
theorem dL_law_1648 : decode cL_law 1648 = .ok (.goto 2327, 3) := by decide +kernel
theorem dL_law_1651 : decode cL_law 1651 = .ok (.aload_n 1, 1) := by decide +kernel
theorem dL_law_1652 : decode cL_law 1652 = .ok (.aload_n 0, 1) := by decide +kernel
theorem dL_law_1653 : decode cL_law 1653 = .ok (.iload 5, 2) := by decide +kernel
theorem dL_law_1655 : decode cL_law 1655 = .ok (.iconst 1, 1) := by decide +kernel
theorem dL_law_1656 : decode cL_law 1656 = .ok (.iadd, 1) := by decide +kernel
theorem dL_law_1657 : decode cL_law 1657 = .ok (.iaload, 1) := by decide +kernel
theorem dL_law_1658 : decode cL_law 1658 = .ok (.aload_n 3, 1) := by decide +kernel
theorem dL_law_1659 : decode cL_law 1659 = .ok (.invokestatic 296, 3) := by decide +kernel
theorem dL_law_1662 : decode cL_law 1662 = .ok (.istore 6, 2) := by decide +kernel
theorem dL_law_1664 : decode cL_law 1664 = .ok (.aload_n 2, 1) := by decide +kernel
theorem dL_law_1665 : decode cL_law 1665 = .ok (.aload_n 0, 1) := by decide +kernel
theorem dL_law_1666 : decode cL_law 1666 = .ok (.iload 5, 2) := by decide +kernel
theorem dL_law_1668 : decode cL_law 1668 = .ok (.iconst 1, 1) := by decide +kernel
theorem dL_law_1669 : decode cL_law 1669 = .ok (.iadd, 1) := by decide +kernel
theorem dL_law_1670 : decode cL_law 1670 = .ok (.iaload, 1) := by decide +kernel
theorem dL_law_1671 : decode cL_law 1671 = .ok (.invokevirtual 298, 3) := by decide +kernel
theorem dL_law_1674 : decode cL_law 1674 = .ok (.istore 7, 2) := by decide +kernel
theorem dL_law_1676 : decode cL_law 1676 = .ok (.aload_n 2, 1) := by decide +kernel
theorem dL_law_1677 : decode cL_law 1677 = .ok (.invokevirtual 204, 3) := by decide +kernel
theorem dL_law_1680 : decode cL_law 1680 = .ok (.iload 6, 2) := by decide +kernel
theorem dL_law_1682 : decode cL_law 1682 = .ok (.if_icmp .eq 5, 3) := by decide +kernel
theorem dL_law_1687 : decode cL_law 1687 = .ok (.iload 6, 2) := by decide +kernel
theorem dL_law_1689 : decode cL_law 1689 = .ok (.ifCond .ne 15, 3) := by decide +kernel
theorem dL_law_1704 : decode cL_law 1704 = .ok (.goto 2271, 3) := by decide +kernel
theorem dL_law_1707 : decode cL_law 1707 = .ok (.aload_n 1, 1) := by decide +kernel
theorem dL_law_1708 : decode cL_law 1708 = .ok (.aload_n 0, 1) := by decide +kernel
theorem dL_law_1709 : decode cL_law 1709 = .ok (.iload 5, 2) := by decide +kernel
theorem dL_law_1711 : decode cL_law 1711 = .ok (.iconst 1, 1) := by decide +kernel
theorem dL_law_1712 : decode cL_law 1712 = .ok (.iadd, 1) := by decide +kernel
theorem dL_law_1713 : decode cL_law 1713 = .ok (.iaload, 1) := by decide +kernel
theorem dL_law_1714 : decode cL_law 1714 = .ok (.aload_n 3, 1) := by decide +kernel
theorem dL_law_1715 : decode cL_law 1715 = .ok (.invokestatic 299, 3) := by decide +kernel
theorem dL_law_1718 : decode cL_law 1718 = .ok (.istore 6, 2) := by decide +kernel
theorem dL_law_1720 : decode cL_law 1720 = .ok (.aload_n 2, 1) := by decide +kernel
theorem dL_law_1721 : decode cL_law 1721 = .ok (.aload_n 0, 1) := by decide +kernel
theorem dL_law_1722 : decode cL_law 1722 = .ok (.iload 5, 2) := by decide +kernel
theorem dL_law_1724 : decode cL_law 1724 = .ok (.iconst 1, 1) := by decide +kernel
theorem dL_law_1725 : decode cL_law 1725 = .ok (.iadd, 1) := by decide +kernel
theorem dL_law_1726 : decode cL_law 1726 = .ok (.iaload, 1) := by decide +kernel
theorem dL_law_1727 : decode cL_law 1727 = .ok (.invokevirtual 301, 3) := by decide +kernel
theorem dL_law_1730 : decode cL_law 1730 = .ok (.istore 7, 2) := by decide +kernel
theorem dL_law_1732 : decode cL_law 1732 = .ok (.aload_n 2, 1) := by decide +kernel
theorem dL_law_1733 : decode cL_law 1733 = .ok (.invokevirtual 204, 3) := by decide +kernel
theorem dL_law_1736 : decode cL_law 1736 = .ok (.iload 6, 2) := by decide +kernel
theorem dL_law_1738 : decode cL_law 1738 = .ok (.if_icmp .eq 5, 3) := by decide +kernel
theorem dL_law_1743 : decode cL_law 1743 = .ok (.iload 6, 2) := by decide +kernel
theorem dL_law_1745 : decode cL_law 1745 = .ok (.ifCond .ne 22, 3) := by decide +kernel
theorem dL_law_1767 : decode cL_law 1767 = .ok (.goto 2208, 3) := by decide +kernel
theorem dL_law_1770 : decode cL_law 1770 = .ok (.aload_n 1, 1) := by decide +kernel
theorem dL_law_1771 : decode cL_law 1771 = .ok (.aload_n 0, 1) := by decide +kernel
theorem dL_law_1772 : decode cL_law 1772 = .ok (.iload 5, 2) := by decide +kernel
theorem dL_law_1774 : decode cL_law 1774 = .ok (.iconst 1, 1) := by decide +kernel
theorem dL_law_1775 : decode cL_law 1775 = .ok (.iadd, 1) := by decide +kernel
theorem dL_law_1776 : decode cL_law 1776 = .ok (.iaload, 1) := by decide +kernel
theorem dL_law_1777 : decode cL_law 1777 = .ok (.aload_n 3, 1) := by decide +kernel
theorem dL_law_1778 : decode cL_law 1778 = .ok (.invokestatic 302, 3) := by decide +kernel
theorem dL_law_1781 : decode cL_law 1781 = .ok (.istore 6, 2) := by decide +kernel
theorem dL_law_1783 : decode cL_law 1783 = .ok (.aload_n 2, 1) := by decide +kernel
theorem dL_law_1784 : decode cL_law 1784 = .ok (.aload_n 0, 1) := by decide +kernel
theorem dL_law_1785 : decode cL_law 1785 = .ok (.iload 5, 2) := by decide +kernel
theorem dL_law_1787 : decode cL_law 1787 = .ok (.iconst 1, 1) := by decide +kernel
theorem dL_law_1788 : decode cL_law 1788 = .ok (.iadd, 1) := by decide +kernel
theorem dL_law_1789 : decode cL_law 1789 = .ok (.iaload, 1) := by decide +kernel
theorem dL_law_1790 : decode cL_law 1790 = .ok (.invokevirtual 304, 3) := by decide +kernel
theorem dL_law_1793 : decode cL_law 1793 = .ok (.lstore 7, 2) := by decide +kernel
theorem dL_law_1795 : decode cL_law 1795 = .ok (.aload_n 2, 1) := by decide +kernel
theorem dL_law_1796 : decode cL_law 1796 = .ok (.invokevirtual 204, 3) := by decide +kernel
theorem dL_law_1799 : decode cL_law 1799 = .ok (.iload 6, 2) := by decide +kernel
theorem dL_law_1801 : decode cL_law 1801 = .ok (.if_icmp .eq 5, 3) := by decide +kernel
theorem dL_law_1806 : decode cL_law 1806 = .ok (.iload 6, 2) := by decide +kernel
theorem dL_law_1808 : decode cL_law 1808 = .ok (.ifCond .ne 14, 3) := by decide +kernel
theorem dL_law_1822 : decode cL_law 1822 = .ok (.goto 2153, 3) := by decide +kernel
set_option maxHeartbeats 4000000 in
set_option maxRecDepth 100000 in
theorem p_a23 {p : Program} {e : Env} {s : State} {m : MethodId} {below : List Frame} {meth : Method} {c : Code} (l : Launch) (hst : l.stackTraces = false) {b : Nat} {xs : Nat → Int32} (hx : p.tables.exec = Jvm.exec) (hb : c.code = code) (hr : meth.sig.returnType = ret) (hml : c.maxLocals = 9) (hown : s.vm.findClass RL = some m.cls) (hts : ∀ w ∈ lw_tbl, w.before #[Value.ref b] s = true) (hlocks : meth.locks = false) (hX0 : va_X b 6 xs s s.heap) (hbl : b < s.heap.size) (hX : xT (fun q => s.heap.size ≤ q) s) (hN1 : va_Nc xIAE xIOB s) (hN2 : va_Nc xISE xIOB s) {D : va_G} {cI cJ cZ cMic cSrc cSt cAI cAJ cD : ClassId} {ad am : Nat → Nat} {N : Nat} {S : Nat → va_E} {ls : Array Slot} {H : Heap} {locs : List Loc} (hK : va_K D vwCl (CT cI cJ cZ cMic cSrc cSt cAI cAJ ++ [(cD, .double)]) s) (hN : 1586 ≤ N) (F : FR cI cJ cZ cMic cSrc cSt cAI cAJ ad S) (G : lG D ad N cI cJ cZ am (fun q => s.heap.size ≤ q) s.heap H locs S mS0) (hl : lv_has ls 9 [(5, .int 0), (4, .ref (am 99)), (3, .ref (am 98)), (2, .ref (am 0)), (1, .ref (ad 0)), (0, .ref b)]) : W p l e room_1 s m #[Value.ref b] below meth c H locs 1605 82603 (lw_Z below #[Value.ref b] s) (F0 m 1410 ls []) := by
  obtain ⟨hS0, hS1, hS2, hS3, hS4, hS5, hS6, hS432, hS478, hS480, hS656, hS658⟩ := F
  have E : cE p c cL_law s m #[Value.ref b] lw_tbl D RL (CT cI cJ cZ cMic cSrc cSt cAI cAJ ++ [(cD, .double)]) := ⟨hx, hb, hts, hown, hK⟩
  have hKm : va_K D vwCl (MT cI cJ cZ) s := hK.sub [0, 1, 2] rfl
  have hKb : ∀ t : State, s.vm.Alike t.vm → va_K D vwCl (CT cI cJ cZ cMic cSrc cSt cAI cAJ ++ [(cD, .double)]) t := fun t h => va_K.moved h hK
  have hA : ∀ q : Nat, s.heap.size ≤ q → s.heap.size ≤ q := fun _ h => h
  refine lv_aload_n hx hb dL_law_1410 rfl (lv_at hl 4 rfl) ?_
  refine lv_aload_n hx hb dL_law_1411 rfl (lv_at hl 5 rfl) ?_
  refine lv_iload hx hb dL_law_1412 (lv_at hl 0 rfl) ?_
  refine lv_iconst (v := 1) hx hb dL_law_1414 (by decide) ?_
  refine lv_iadd hx hb dL_law_1415 ?_
  refine lv_to (y := 1) (by decide +kernel) ?_
  refine va_sld hx hb hX0 hbl (Nat.not_le.mpr hbl) G.2.2 (i := 1) (vp_in_nI (n := 1) (N := 6) (by decide) (by decide)) dL_law_1416 ?_
  refine lv_to (y := xs 1) (congrArg xs (by decide)) ?_
  refine lv_aload_n hx hb dL_law_1417 rfl (lv_at hl 5 rfl) ?_
  refine lv_iload hx hb dL_law_1418 (lv_at hl 0 rfl) ?_
  refine lv_iconst (v := 2) hx hb dL_law_1420 (by decide) ?_
  refine lv_iadd hx hb dL_law_1421 ?_
  refine lv_to (y := 2) (by decide +kernel) ?_
  refine va_sld hx hb hX0 hbl (Nat.not_le.mpr hbl) G.2.2 (i := 2) (vp_in_nI (n := 2) (N := 6) (by decide) (by decide)) dL_law_1422 ?_
  refine lv_to (y := xs 2) (congrArg xs (by decide)) ?_
  refine lv_aload_n hx hb dL_law_1423 rfl (lv_at hl 2 rfl) ?_
  refine l_w (As := [.ref (ad 0), .int (xs 1), .int (xs 2), .ref (am 98)]) (rest := []) E G hA hX hN1 hN2 (fun _ _ h _ _ k => va_Nc.moved h k) rfl hml (w_powerAt l hst D _ ad N S (sc := 478) (Nat.lt_of_lt_of_le (by decide) hN) hS0 rfl (Nat.lt_of_lt_of_le (by decide) hN) hS478 rfl (xs 1) (xs 2) (am 98)) (vx_cwSW 4 hts (glA (L := [Cond.methodLink RL 280 yL_powerAt, Cond.static yL_powerAt, Cond.initialized RL]) (gl_in [(6, 10), (6, 11), (1, 0)] (by decide +kernel) (by decide +kernel)) ⟨(t_of [Cond.codeWith yL_powerAt cL_powerAt 5 (some .int) [(0, 9, 12, 21), (0, 9, 16, 15)]] [(6, 12)] (by decide +kernel) _ List.mem_cons_self), List.all_eq_true.mp (by decide +kernel : [Cond.codeWith yL_powerAt cL_powerAt 5 (some .int) [(0, 9, 12, 21), (0, 9, 16, 15)]].all goodWord = true) _ List.mem_cons_self⟩) rfl rfl rfl (by decide +kernel) ⟨Nat.le_of_ble_eq_true rfl, Nat.le_of_ble_eq_true rfl⟩) rfl hl.1 rfl (lv_room (Nat.le_of_ble_eq_true rfl)) dL_law_1424 ⟨Nat.le_of_ble_eq_true rfl, Nat.le_of_ble_eq_true rfl⟩ (fun r S1 H locs hq G => ?_)
  obtain ⟨hq1, hq2⟩ := hq
  rw [hq2] at G
  refine lv_to (y := 1) hq1 ?_
  refine lv_istore (lv' := [(6, .int 1), (5, .int 0), (4, .ref (am 99)), (3, .ref (am 98)), (2, .ref (am 0)), (1, .ref (ad 0)), (0, .ref b)]) hx hb dL_law_1427 hl (by decide) rfl (fun ls hl => ?_)
  refine lv_aload_n hx hb dL_law_1429 rfl (lv_at hl 4 rfl) ?_
  refine lv_aload_n hx hb dL_law_1430 rfl (lv_at hl 6 rfl) ?_
  refine lv_iload hx hb dL_law_1431 (lv_at hl 1 rfl) ?_
  refine lv_iconst (v := 1) hx hb dL_law_1433 (by decide) ?_
  refine lv_iadd hx hb dL_law_1434 ?_
  refine lv_to (y := 1) (by decide +kernel) ?_
  refine va_sld hx hb hX0 hbl (Nat.not_le.mpr hbl) G.2.2 (i := 1) (vp_in_nI (n := 1) (N := 6) (by decide) (by decide)) dL_law_1435 ?_
  refine lv_to (y := xs 1) (congrArg xs (by decide)) ?_
  refine lv_aload_n hx hb dL_law_1436 rfl (lv_at hl 6 rfl) ?_
  refine lv_iload hx hb dL_law_1437 (lv_at hl 1 rfl) ?_
  refine lv_iconst (v := 2) hx hb dL_law_1439 (by decide) ?_
  refine lv_iadd hx hb dL_law_1440 ?_
  refine lv_to (y := 2) (by decide +kernel) ?_
  refine va_sld hx hb hX0 hbl (Nat.not_le.mpr hbl) G.2.2 (i := 2) (vp_in_nI (n := 2) (N := 6) (by decide) (by decide)) dL_law_1441 ?_
  refine lv_to (y := xs 2) (congrArg xs (by decide)) ?_
  refine l_ml (As := [.int (xs 1), .int (xs 2)]) (rest := []) E G hA hKm hKb hX.2.2.2.2 hml (n_powerAt l D cI cJ cZ am mS0 (xs 1) (xs 2) rfl (fun _ => rfl)) (cwV 2 hts (glM (L := [Cond.methodLink RL 282 yX12_powerAt, Cond.instanceMethod yX12_powerAt, Cond.selects RX12 yX12_powerAt yX12_powerAt, Cond.initialized RX12]) (gl_in [(9, 172), (9, 173), (9, 174), (1, 14)] (by decide +kernel) (by decide +kernel)) ⟨(t_of [Cond.code yX12_powerAt cX12_powerAt 3 (some .long)] [(9, 175)] (by decide +kernel) _ List.mem_cons_self), List.all_eq_true.mp (by decide +kernel : [Cond.code yX12_powerAt cX12_powerAt 3 (some .long)].all goodWord = true) _ List.mem_cons_self⟩) rfl rfl rfl (by decide +kernel) ⟨Nat.le_of_ble_eq_true rfl, Nat.le_of_ble_eq_true rfl⟩) rfl hl.1 rfl (lv_room (Nat.le_of_ble_eq_true rfl)) dL_law_1442 ⟨Nat.le_of_ble_eq_true rfl, Nat.le_of_ble_eq_true rfl⟩ (fun r1 S1 H locs hq G => ?_)
  obtain ⟨hq1, hq2⟩ := hq
  rw [hq2] at G
  refine lv_lstore (lv' := [(7, .long r1), (6, .int 1), (5, .int 0), (4, .ref (am 99)), (3, .ref (am 98)), (2, .ref (am 0)), (1, .ref (ad 0)), (0, .ref b)]) hx hb dL_law_1445 hl (by decide) rfl (fun ls hl => ?_)
  refine lv_aload_n hx hb dL_law_1447 rfl (lv_at hl 5 rfl) ?_
  refine l_mi (As := []) (rest := []) E G hA hKm hKb hX.2.2.2.2 hml (m_thrown l D cI cJ cZ am (mi mS0 0 1)) (cwV 0 hts (glM (L := [Cond.methodLink RL 204 yX12_thrown, Cond.instanceMethod yX12_thrown, Cond.selects RX12 yX12_thrown yX12_thrown, Cond.initialized RX12]) (gl_in [(8, 65), (8, 66), (8, 67), (1, 14)] (by decide +kernel) (by decide +kernel)) ⟨(t_of [Cond.code yX12_thrown cX12_thrown 1 (some .int)] [(8, 68)] (by decide +kernel) _ List.mem_cons_self), List.all_eq_true.mp (by decide +kernel : [Cond.code yX12_thrown cX12_thrown 1 (some .int)].all goodWord = true) _ List.mem_cons_self⟩) rfl rfl rfl (by decide +kernel) ⟨Nat.le_of_ble_eq_true rfl, Nat.le_of_ble_eq_true rfl⟩) rfl hl.1 rfl (lv_room (Nat.le_of_ble_eq_true rfl)) dL_law_1448 ⟨Nat.le_of_ble_eq_true rfl, Nat.le_of_ble_eq_true rfl⟩ (fun r2 S1 H locs hq G => ?_)
  obtain ⟨hq1, hq2⟩ := hq
  rw [hq2] at G
  refine lv_to (y := 1) hq1 ?_
  refine lv_iload hx hb dL_law_1451 (lv_at hl 1 rfl) ?_
  refine lv_icmp_eq (tgt := 1458) hx hb dL_law_1453 (by decide) (fun c3 => ?_) (fun c3 => absurd (by decide +kernel) c3)
  refine lv_iload hx hb dL_law_1458 (lv_at hl 1 rfl) ?_
  refine lv_if_ne (tgt := 1474) hx hb dL_law_1460 (by decide) (fun c4 => ?_) (fun c4 => absurd c4 (by decide +kernel))
  refine lv_goto (tgt := 3975) hx hb dL_law_1474 (by decide) ?_
  refine lv_iinc (v := 6) (lv' := [(5, .int 6), (7, .long r1), (6, .int 1), (4, .ref (am 99)), (3, .ref (am 98)), (2, .ref (am 0)), (1, .ref (ad 0)), (0, .ref b)]) hx hb dL_law_3975 hl (k := 2) rfl (by decide +kernel) (by decide) rfl (fun ls hl => ?_)
  refine lv_goto (tgt := 28) hx hb dL_law_3978 (by decide) ?_
  refine lv_iload hx hb dL_law_28 (lv_at hl 0 rfl) ?_
  refine lv_aload_n hx hb dL_law_30 rfl (lv_at hl 7 rfl) ?_
  refine va_slen hx hb hX0 hbl (Nat.not_le.mpr hbl) G.2.2 dL_law_31 ?_
  refine lv_to (y := 6) (by decide) ?_
  refine lv_bipush (v := 6) hx hb dL_law_32 (by decide) ?_
  refine lv_isub hx hb dL_law_34 ?_
  refine lv_to (y := 0) (by decide +kernel) ?_
  refine lv_icmp_gt (tgt := 3981) hx hb dL_law_35 (by decide) (fun c5 => ?_) (fun c5 => absurd (by decide +kernel) c5)
  refine lv_iconst (v := 1) hx hb dL_law_3981 (by decide) ?_
  refine va_forget G.2.2.2.2 ?_
  refine W.widen (k := 600002) (n := 7302232) (Nat.le_of_ble_eq_true rfl) (Nat.le_of_ble_eq_true rfl) ?_
  exact lw_ret (d0 := s.drawn) (Drawn.sameBut.refl s.drawn lw_cs) hx hb hr hlocks dL_law_3982
set_option maxHeartbeats 4000000 in
set_option maxRecDepth 100000 in
theorem p_a24 {p : Program} {e : Env} {s : State} {m : MethodId} {below : List Frame} {meth : Method} {c : Code} (l : Launch) (hst : l.stackTraces = false) {b : Nat} {xs : Nat → Int32} (hx : p.tables.exec = Jvm.exec) (hb : c.code = code) (hr : meth.sig.returnType = ret) (hml : c.maxLocals = 9) (hown : s.vm.findClass RL = some m.cls) (hts : ∀ w ∈ lw_tbl, w.before #[Value.ref b] s = true) (hlocks : meth.locks = false) (hX0 : va_X b 6 xs s s.heap) (hbl : b < s.heap.size) (hX : xT (fun q => s.heap.size ≤ q) s) (hN1 : va_Nc xIAE xIOB s) (hN2 : va_Nc xISE xIOB s) {D : va_G} {cI cJ cZ cMic cSrc cSt cAI cAJ cD : ClassId} {ad am : Nat → Nat} {N : Nat} {S : Nat → va_E} {ls : Array Slot} {H : Heap} {locs : List Loc} (hK : va_K D vwCl (CT cI cJ cZ cMic cSrc cSt cAI cAJ ++ [(cD, .double)]) s) (hN : 1586 ≤ N) (F : FR cI cJ cZ cMic cSrc cSt cAI cAJ ad S) (G : lG D ad N cI cJ cZ am (fun q => s.heap.size ≤ q) s.heap H locs S mS0) (hl : lv_has ls 9 [(5, .int 0), (4, .ref (am 99)), (3, .ref (am 98)), (2, .ref (am 0)), (1, .ref (ad 0)), (0, .ref b)]) : W p l e room_1 s m #[Value.ref b] below meth c H locs 1605 82603 (lw_Z below #[Value.ref b] s) (F0 m 1477 ls []) := by
  obtain ⟨hS0, hS1, hS2, hS3, hS4, hS5, hS6, hS432, hS478, hS480, hS656, hS658⟩ := F
  have E : cE p c cL_law s m #[Value.ref b] lw_tbl D RL (CT cI cJ cZ cMic cSrc cSt cAI cAJ ++ [(cD, .double)]) := ⟨hx, hb, hts, hown, hK⟩
  have hKm : va_K D vwCl (MT cI cJ cZ) s := hK.sub [0, 1, 2] rfl
  have hKb : ∀ t : State, s.vm.Alike t.vm → va_K D vwCl (CT cI cJ cZ cMic cSrc cSt cAI cAJ ++ [(cD, .double)]) t := fun t h => va_K.moved h hK
  have hA : ∀ q : Nat, s.heap.size ≤ q → s.heap.size ≤ q := fun _ h => h
  refine lv_aload_n hx hb dL_law_1477 rfl (lv_at hl 4 rfl) ?_
  refine lv_aload_n hx hb dL_law_1478 rfl (lv_at hl 2 rfl) ?_
  refine l_w (As := [.ref (ad 0), .ref (am 98)]) (rest := []) E G hA hX hN1 hN2 (fun _ _ h _ _ k => va_Nc.moved h k) rfl hml (w_best l hst D _ ad N S (sc := 478) (Nat.lt_of_lt_of_le (by decide) hN) hS0 rfl (Nat.lt_of_lt_of_le (by decide) hN) hS478 rfl (am 98)) (vx_cwSW 2 hts (glA (L := [Cond.methodLink RL 283 yL_best, Cond.static yL_best, Cond.initialized RL]) (gl_in [(6, 23), (6, 24), (1, 0)] (by decide +kernel) (by decide +kernel)) ⟨(t_of [Cond.codeWith yL_best cL_best 3 (some .int) [(0, 8, 11, 21)]] [(6, 25)] (by decide +kernel) _ List.mem_cons_self), List.all_eq_true.mp (by decide +kernel : [Cond.codeWith yL_best cL_best 3 (some .int) [(0, 8, 11, 21)]].all goodWord = true) _ List.mem_cons_self⟩) rfl rfl rfl (by decide +kernel) ⟨Nat.le_of_ble_eq_true rfl, Nat.le_of_ble_eq_true rfl⟩) rfl hl.1 rfl (lv_room (Nat.le_of_ble_eq_true rfl)) dL_law_1479 ⟨Nat.le_of_ble_eq_true rfl, Nat.le_of_ble_eq_true rfl⟩ (fun r S1 H locs hq G => ?_)
  obtain ⟨hq1, hq2⟩ := hq
  rw [hq2] at G
  refine lv_to (y := 1) hq1 ?_
  refine lv_istore (lv' := [(6, .int 1), (5, .int 0), (4, .ref (am 99)), (3, .ref (am 98)), (2, .ref (am 0)), (1, .ref (ad 0)), (0, .ref b)]) hx hb dL_law_1482 hl (by decide) rfl (fun ls hl => ?_)
  refine lv_aload_n hx hb dL_law_1484 rfl (lv_at hl 4 rfl) ?_
  refine l_mi (As := []) (rest := []) E G hA hKm hKb hX.2.2.2.2 hml (n_best l D cI cJ cZ am mS0 rfl (fun _ => rfl)) (cwV 0 hts (glM (L := [Cond.methodLink RL 286 yX12_best, Cond.instanceMethod yX12_best, Cond.selects RX12 yX12_best yX12_best, Cond.initialized RX12]) (gl_in [(9, 180), (9, 181), (9, 182), (1, 14)] (by decide +kernel) (by decide +kernel)) ⟨(t_of [Cond.code yX12_best cX12_best 1 (some .int)] [(9, 183)] (by decide +kernel) _ List.mem_cons_self), List.all_eq_true.mp (by decide +kernel : [Cond.code yX12_best cX12_best 1 (some .int)].all goodWord = true) _ List.mem_cons_self⟩) rfl rfl rfl (by decide +kernel) ⟨Nat.le_of_ble_eq_true rfl, Nat.le_of_ble_eq_true rfl⟩) rfl hl.1 rfl (lv_room (Nat.le_of_ble_eq_true rfl)) dL_law_1485 ⟨Nat.le_of_ble_eq_true rfl, Nat.le_of_ble_eq_true rfl⟩ (fun r1 S1 H locs hq G => ?_)
  obtain ⟨hq1, hq2⟩ := hq
  rw [hq2] at G
  refine lv_to (y := 0) hq1 ?_
  refine lv_istore (lv' := [(7, .int 0), (6, .int 1), (5, .int 0), (4, .ref (am 99)), (3, .ref (am 98)), (2, .ref (am 0)), (1, .ref (ad 0)), (0, .ref b)]) hx hb dL_law_1488 hl (by decide) rfl (fun ls hl => ?_)
  refine lv_aload_n hx hb dL_law_1490 rfl (lv_at hl 5 rfl) ?_
  refine l_mi (As := []) (rest := []) E G hA hKm hKb hX.2.2.2.2 hml (m_thrown l D cI cJ cZ am (mi mS0 0 1)) (cwV 0 hts (glM (L := [Cond.methodLink RL 204 yX12_thrown, Cond.instanceMethod yX12_thrown, Cond.selects RX12 yX12_thrown yX12_thrown, Cond.initialized RX12]) (gl_in [(8, 65), (8, 66), (8, 67), (1, 14)] (by decide +kernel) (by decide +kernel)) ⟨(t_of [Cond.code yX12_thrown cX12_thrown 1 (some .int)] [(8, 68)] (by decide +kernel) _ List.mem_cons_self), List.all_eq_true.mp (by decide +kernel : [Cond.code yX12_thrown cX12_thrown 1 (some .int)].all goodWord = true) _ List.mem_cons_self⟩) rfl rfl rfl (by decide +kernel) ⟨Nat.le_of_ble_eq_true rfl, Nat.le_of_ble_eq_true rfl⟩) rfl hl.1 rfl (lv_room (Nat.le_of_ble_eq_true rfl)) dL_law_1491 ⟨Nat.le_of_ble_eq_true rfl, Nat.le_of_ble_eq_true rfl⟩ (fun r2 S1 H locs hq G => ?_)
  obtain ⟨hq1, hq2⟩ := hq
  rw [hq2] at G
  refine lv_to (y := 1) hq1 ?_
  refine lv_iload hx hb dL_law_1494 (lv_at hl 1 rfl) ?_
  refine lv_icmp_eq (tgt := 1501) hx hb dL_law_1496 (by decide) (fun c3 => ?_) (fun c3 => absurd (by decide +kernel) c3)
  refine lv_iload hx hb dL_law_1501 (lv_at hl 1 rfl) ?_
  refine lv_if_ne (tgt := 1518) hx hb dL_law_1503 (by decide) (fun c4 => ?_) (fun c4 => absurd c4 (by decide +kernel))
  refine lv_goto (tgt := 3975) hx hb dL_law_1518 (by decide) ?_
  refine lv_iinc (v := 6) (lv' := [(5, .int 6), (7, .int 0), (6, .int 1), (4, .ref (am 99)), (3, .ref (am 98)), (2, .ref (am 0)), (1, .ref (ad 0)), (0, .ref b)]) hx hb dL_law_3975 hl (k := 2) rfl (by decide +kernel) (by decide) rfl (fun ls hl => ?_)
  refine lv_goto (tgt := 28) hx hb dL_law_3978 (by decide) ?_
  refine lv_iload hx hb dL_law_28 (lv_at hl 0 rfl) ?_
  refine lv_aload_n hx hb dL_law_30 rfl (lv_at hl 7 rfl) ?_
  refine va_slen hx hb hX0 hbl (Nat.not_le.mpr hbl) G.2.2 dL_law_31 ?_
  refine lv_to (y := 6) (by decide) ?_
  refine lv_bipush (v := 6) hx hb dL_law_32 (by decide) ?_
  refine lv_isub hx hb dL_law_34 ?_
  refine lv_to (y := 0) (by decide +kernel) ?_
  refine lv_icmp_gt (tgt := 3981) hx hb dL_law_35 (by decide) (fun c5 => ?_) (fun c5 => absurd (by decide +kernel) c5)
  refine lv_iconst (v := 1) hx hb dL_law_3981 (by decide) ?_
  refine va_forget G.2.2.2.2 ?_
  refine W.widen (k := 600002) (n := 7302232) (Nat.le_of_ble_eq_true rfl) (Nat.le_of_ble_eq_true rfl) ?_
  exact lw_ret (d0 := s.drawn) (Drawn.sameBut.refl s.drawn lw_cs) hx hb hr hlocks dL_law_3982
set_option maxHeartbeats 4000000 in
set_option maxRecDepth 100000 in
theorem p_a25 {p : Program} {e : Env} {s : State} {m : MethodId} {below : List Frame} {meth : Method} {c : Code} (l : Launch) (hst : l.stackTraces = false) {b : Nat} {xs : Nat → Int32} (hx : p.tables.exec = Jvm.exec) (hb : c.code = code) (hr : meth.sig.returnType = ret) (hml : c.maxLocals = 9) (hown : s.vm.findClass RL = some m.cls) (hts : ∀ w ∈ lw_tbl, w.before #[Value.ref b] s = true) (hlocks : meth.locks = false) (hX0 : va_X b 6 xs s s.heap) (hbl : b < s.heap.size) (hX : xT (fun q => s.heap.size ≤ q) s) (hN1 : va_Nc xIAE xIOB s) (hN2 : va_Nc xISE xIOB s) {D : va_G} {cI cJ cZ cMic cSrc cSt cAI cAJ cD : ClassId} {ad am : Nat → Nat} {N : Nat} {S : Nat → va_E} {ls : Array Slot} {H : Heap} {locs : List Loc} (hK : va_K D vwCl (CT cI cJ cZ cMic cSrc cSt cAI cAJ ++ [(cD, .double)]) s) (hN : 1586 ≤ N) (F : FR cI cJ cZ cMic cSrc cSt cAI cAJ ad S) (G : lG D ad N cI cJ cZ am (fun q => s.heap.size ≤ q) s.heap H locs S mS0) (hl : lv_has ls 9 [(5, .int 0), (4, .ref (am 99)), (3, .ref (am 98)), (2, .ref (am 0)), (1, .ref (ad 0)), (0, .ref b)]) : W p l e room_1 s m #[Value.ref b] below meth c H locs 1605 82603 (lw_Z below #[Value.ref b] s) (F0 m 1521 ls []) := by
  obtain ⟨hS0, hS1, hS2, hS3, hS4, hS5, hS6, hS432, hS478, hS480, hS656, hS658⟩ := F
  have E : cE p c cL_law s m #[Value.ref b] lw_tbl D RL (CT cI cJ cZ cMic cSrc cSt cAI cAJ ++ [(cD, .double)]) := ⟨hx, hb, hts, hown, hK⟩
  have hKm : va_K D vwCl (MT cI cJ cZ) s := hK.sub [0, 1, 2] rfl
  have hKb : ∀ t : State, s.vm.Alike t.vm → va_K D vwCl (CT cI cJ cZ cMic cSrc cSt cAI cAJ ++ [(cD, .double)]) t := fun t h => va_K.moved h hK
  have hA : ∀ q : Nat, s.heap.size ≤ q → s.heap.size ≤ q := fun _ h => h
  refine lv_aload_n hx hb dL_law_1521 rfl (lv_at hl 4 rfl) ?_
  refine lv_aload_n hx hb dL_law_1522 rfl (lv_at hl 2 rfl) ?_
  refine l_w (As := [.ref (ad 0), .ref (am 98)]) (rest := []) E G hA hX hN1 hN2 (fun _ _ h _ _ k => va_Nc.moved h k) rfl hml (w_bestPower l hst D _ ad N S (sc := 478) (Nat.lt_of_lt_of_le (by decide) hN) hS0 rfl (Nat.lt_of_lt_of_le (by decide) hN) hS478 rfl (am 98)) (vx_cwSW 2 hts (glA (L := [Cond.methodLink RL 287 yL_bestPower, Cond.static yL_bestPower, Cond.initialized RL]) (gl_in [(6, 30), (6, 31), (1, 0)] (by decide +kernel) (by decide +kernel)) ⟨(t_of [Cond.codeWith yL_bestPower cL_bestPower 3 (some .int) [(0, 7, 10, 21)]] [(6, 32)] (by decide +kernel) _ List.mem_cons_self), List.all_eq_true.mp (by decide +kernel : [Cond.codeWith yL_bestPower cL_bestPower 3 (some .int) [(0, 7, 10, 21)]].all goodWord = true) _ List.mem_cons_self⟩) rfl rfl rfl (by decide +kernel) ⟨Nat.le_of_ble_eq_true rfl, Nat.le_of_ble_eq_true rfl⟩) rfl hl.1 rfl (lv_room (Nat.le_of_ble_eq_true rfl)) dL_law_1523 ⟨Nat.le_of_ble_eq_true rfl, Nat.le_of_ble_eq_true rfl⟩ (fun r S1 H locs hq G => ?_)
  obtain ⟨hq1, hq2⟩ := hq
  rw [hq2] at G
  refine lv_to (y := 1) hq1 ?_
  refine lv_istore (lv' := [(6, .int 1), (5, .int 0), (4, .ref (am 99)), (3, .ref (am 98)), (2, .ref (am 0)), (1, .ref (ad 0)), (0, .ref b)]) hx hb dL_law_1526 hl (by decide) rfl (fun ls hl => ?_)
  refine lv_aload_n hx hb dL_law_1528 rfl (lv_at hl 4 rfl) ?_
  refine l_ml (As := []) (rest := []) E G hA hKm hKb hX.2.2.2.2 hml (n_bestPower l D cI cJ cZ am mS0 rfl (fun _ => rfl)) (cwV 0 hts (glM (L := [Cond.methodLink RL 289 yX12_bestPower, Cond.instanceMethod yX12_bestPower, Cond.selects RX12 yX12_bestPower yX12_bestPower, Cond.initialized RX12]) (gl_in [(9, 192), (9, 193), (9, 194), (1, 14)] (by decide +kernel) (by decide +kernel)) ⟨(t_of [Cond.code yX12_bestPower cX12_bestPower 1 (some .long)] [(9, 195)] (by decide +kernel) _ List.mem_cons_self), List.all_eq_true.mp (by decide +kernel : [Cond.code yX12_bestPower cX12_bestPower 1 (some .long)].all goodWord = true) _ List.mem_cons_self⟩) rfl rfl rfl (by decide +kernel) ⟨Nat.le_of_ble_eq_true rfl, Nat.le_of_ble_eq_true rfl⟩) rfl hl.1 rfl (lv_room (Nat.le_of_ble_eq_true rfl)) dL_law_1529 ⟨Nat.le_of_ble_eq_true rfl, Nat.le_of_ble_eq_true rfl⟩ (fun r1 S1 H locs hq G => ?_)
  obtain ⟨hq1, hq2⟩ := hq
  rw [hq2] at G
  refine lv_lstore (lv' := [(7, .long r1), (6, .int 1), (5, .int 0), (4, .ref (am 99)), (3, .ref (am 98)), (2, .ref (am 0)), (1, .ref (ad 0)), (0, .ref b)]) hx hb dL_law_1532 hl (by decide) rfl (fun ls hl => ?_)
  refine lv_aload_n hx hb dL_law_1534 rfl (lv_at hl 5 rfl) ?_
  refine l_mi (As := []) (rest := []) E G hA hKm hKb hX.2.2.2.2 hml (m_thrown l D cI cJ cZ am (mi mS0 0 1)) (cwV 0 hts (glM (L := [Cond.methodLink RL 204 yX12_thrown, Cond.instanceMethod yX12_thrown, Cond.selects RX12 yX12_thrown yX12_thrown, Cond.initialized RX12]) (gl_in [(8, 65), (8, 66), (8, 67), (1, 14)] (by decide +kernel) (by decide +kernel)) ⟨(t_of [Cond.code yX12_thrown cX12_thrown 1 (some .int)] [(8, 68)] (by decide +kernel) _ List.mem_cons_self), List.all_eq_true.mp (by decide +kernel : [Cond.code yX12_thrown cX12_thrown 1 (some .int)].all goodWord = true) _ List.mem_cons_self⟩) rfl rfl rfl (by decide +kernel) ⟨Nat.le_of_ble_eq_true rfl, Nat.le_of_ble_eq_true rfl⟩) rfl hl.1 rfl (lv_room (Nat.le_of_ble_eq_true rfl)) dL_law_1535 ⟨Nat.le_of_ble_eq_true rfl, Nat.le_of_ble_eq_true rfl⟩ (fun r2 S1 H locs hq G => ?_)
  obtain ⟨hq1, hq2⟩ := hq
  rw [hq2] at G
  refine lv_to (y := 1) hq1 ?_
  refine lv_iload hx hb dL_law_1538 (lv_at hl 1 rfl) ?_
  refine lv_icmp_eq (tgt := 1545) hx hb dL_law_1540 (by decide) (fun c3 => ?_) (fun c3 => absurd (by decide +kernel) c3)
  refine lv_iload hx hb dL_law_1545 (lv_at hl 1 rfl) ?_
  refine lv_if_ne (tgt := 1561) hx hb dL_law_1547 (by decide) (fun c4 => ?_) (fun c4 => absurd c4 (by decide +kernel))
  refine lv_goto (tgt := 3975) hx hb dL_law_1561 (by decide) ?_
  refine lv_iinc (v := 6) (lv' := [(5, .int 6), (7, .long r1), (6, .int 1), (4, .ref (am 99)), (3, .ref (am 98)), (2, .ref (am 0)), (1, .ref (ad 0)), (0, .ref b)]) hx hb dL_law_3975 hl (k := 2) rfl (by decide +kernel) (by decide) rfl (fun ls hl => ?_)
  refine lv_goto (tgt := 28) hx hb dL_law_3978 (by decide) ?_
  refine lv_iload hx hb dL_law_28 (lv_at hl 0 rfl) ?_
  refine lv_aload_n hx hb dL_law_30 rfl (lv_at hl 7 rfl) ?_
  refine va_slen hx hb hX0 hbl (Nat.not_le.mpr hbl) G.2.2 dL_law_31 ?_
  refine lv_to (y := 6) (by decide) ?_
  refine lv_bipush (v := 6) hx hb dL_law_32 (by decide) ?_
  refine lv_isub hx hb dL_law_34 ?_
  refine lv_to (y := 0) (by decide +kernel) ?_
  refine lv_icmp_gt (tgt := 3981) hx hb dL_law_35 (by decide) (fun c5 => ?_) (fun c5 => absurd (by decide +kernel) c5)
  refine lv_iconst (v := 1) hx hb dL_law_3981 (by decide) ?_
  refine va_forget G.2.2.2.2 ?_
  refine W.widen (k := 600002) (n := 7302232) (Nat.le_of_ble_eq_true rfl) (Nat.le_of_ble_eq_true rfl) ?_
  exact lw_ret (d0 := s.drawn) (Drawn.sameBut.refl s.drawn lw_cs) hx hb hr hlocks dL_law_3982
set_option maxHeartbeats 4000000 in
set_option maxRecDepth 100000 in
theorem p_a26 {p : Program} {e : Env} {s : State} {m : MethodId} {below : List Frame} {meth : Method} {c : Code} (l : Launch) (hst : l.stackTraces = false) {b : Nat} {xs : Nat → Int32} (hx : p.tables.exec = Jvm.exec) (hb : c.code = code) (hr : meth.sig.returnType = ret) (hml : c.maxLocals = 9) (hown : s.vm.findClass RL = some m.cls) (hts : ∀ w ∈ lw_tbl, w.before #[Value.ref b] s = true) (hlocks : meth.locks = false) (hX0 : va_X b 6 xs s s.heap) (hbl : b < s.heap.size) (hX : xT (fun q => s.heap.size ≤ q) s) (hN1 : va_Nc xIAE xIOB s) (hN2 : va_Nc xISE xIOB s) {D : va_G} {cI cJ cZ cMic cSrc cSt cAI cAJ cD : ClassId} {ad am : Nat → Nat} {N : Nat} {S : Nat → va_E} {ls : Array Slot} {H : Heap} {locs : List Loc} (hK : va_K D vwCl (CT cI cJ cZ cMic cSrc cSt cAI cAJ ++ [(cD, .double)]) s) (hN : 1586 ≤ N) (F : FR cI cJ cZ cMic cSrc cSt cAI cAJ ad S) (G : lG D ad N cI cJ cZ am (fun q => s.heap.size ≤ q) s.heap H locs S mS0) (hl : lv_has ls 9 [(5, .int 0), (4, .ref (am 99)), (3, .ref (am 98)), (2, .ref (am 0)), (1, .ref (ad 0)), (0, .ref b)]) : W p l e room_1 s m #[Value.ref b] below meth c H locs 1605 82603 (lw_Z below #[Value.ref b] s) (F0 m 1564 ls []) := by
  obtain ⟨hS0, hS1, hS2, hS3, hS4, hS5, hS6, hS432, hS478, hS480, hS656, hS658⟩ := F
  have E : cE p c cL_law s m #[Value.ref b] lw_tbl D RL (CT cI cJ cZ cMic cSrc cSt cAI cAJ ++ [(cD, .double)]) := ⟨hx, hb, hts, hown, hK⟩
  have hKm : va_K D vwCl (MT cI cJ cZ) s := hK.sub [0, 1, 2] rfl
  have hKb : ∀ t : State, s.vm.Alike t.vm → va_K D vwCl (CT cI cJ cZ cMic cSrc cSt cAI cAJ ++ [(cD, .double)]) t := fun t h => va_K.moved h hK
  have hA : ∀ q : Nat, s.heap.size ≤ q → s.heap.size ≤ q := fun _ h => h
  refine lv_aload_n hx hb dL_law_1564 rfl (lv_at hl 4 rfl) ?_
  refine lv_aload_n hx hb dL_law_1565 rfl (lv_at hl 2 rfl) ?_
  refine l_w (As := [.ref (ad 0), .ref (am 98)]) (rest := []) E G hA hX hN1 hN2 (fun _ _ h _ _ k => va_Nc.moved h k) rfl hml (w_meanPower l hst D _ ad N S (sc := 478) (Nat.lt_of_lt_of_le (by decide) hN) hS0 rfl (Nat.lt_of_lt_of_le (by decide) hN) hS478 rfl (am 98)) (vx_cwSW 2 hts (glA (L := [Cond.methodLink RL 290 yL_meanPower, Cond.static yL_meanPower, Cond.initialized RL]) (gl_in [(6, 37), (6, 38), (1, 0)] (by decide +kernel) (by decide +kernel)) ⟨(t_of [Cond.codeWith yL_meanPower cL_meanPower 3 (some .int) [(0, 7, 10, 21)]] [(6, 39)] (by decide +kernel) _ List.mem_cons_self), List.all_eq_true.mp (by decide +kernel : [Cond.codeWith yL_meanPower cL_meanPower 3 (some .int) [(0, 7, 10, 21)]].all goodWord = true) _ List.mem_cons_self⟩) rfl rfl rfl (by decide +kernel) ⟨Nat.le_of_ble_eq_true rfl, Nat.le_of_ble_eq_true rfl⟩) rfl hl.1 rfl (lv_room (Nat.le_of_ble_eq_true rfl)) dL_law_1566 ⟨Nat.le_of_ble_eq_true rfl, Nat.le_of_ble_eq_true rfl⟩ (fun r S1 H locs hq G => ?_)
  obtain ⟨hq1, hq2⟩ := hq
  rw [hq2] at G
  refine lv_to (y := 1) hq1 ?_
  refine lv_istore (lv' := [(6, .int 1), (5, .int 0), (4, .ref (am 99)), (3, .ref (am 98)), (2, .ref (am 0)), (1, .ref (ad 0)), (0, .ref b)]) hx hb dL_law_1569 hl (by decide) rfl (fun ls hl => ?_)
  refine lv_aload_n hx hb dL_law_1571 rfl (lv_at hl 4 rfl) ?_
  refine l_ml (As := []) (rest := []) E G hA hKm hKb hX.2.2.2.2 hml (n_meanPower l D cI cJ cZ am mS0 rfl (fun _ => rfl)) (cwV 0 hts (glM (L := [Cond.methodLink RL 292 yX12_meanPower, Cond.instanceMethod yX12_meanPower, Cond.selects RX12 yX12_meanPower yX12_meanPower, Cond.initialized RX12]) (gl_in [(9, 196), (9, 197), (9, 198), (1, 14)] (by decide +kernel) (by decide +kernel)) ⟨(t_of [Cond.code yX12_meanPower cX12_meanPower 4 (some .long)] [(9, 199)] (by decide +kernel) _ List.mem_cons_self), List.all_eq_true.mp (by decide +kernel : [Cond.code yX12_meanPower cX12_meanPower 4 (some .long)].all goodWord = true) _ List.mem_cons_self⟩) rfl rfl rfl (by decide +kernel) ⟨Nat.le_of_ble_eq_true rfl, Nat.le_of_ble_eq_true rfl⟩) rfl hl.1 rfl (lv_room (Nat.le_of_ble_eq_true rfl)) dL_law_1572 ⟨Nat.le_of_ble_eq_true rfl, Nat.le_of_ble_eq_true rfl⟩ (fun r1 S1 H locs hq G => ?_)
  obtain ⟨hq1, hq2⟩ := hq
  rw [hq2] at G
  refine lv_lstore (lv' := [(7, .long r1), (6, .int 1), (5, .int 0), (4, .ref (am 99)), (3, .ref (am 98)), (2, .ref (am 0)), (1, .ref (ad 0)), (0, .ref b)]) hx hb dL_law_1575 hl (by decide) rfl (fun ls hl => ?_)
  refine lv_aload_n hx hb dL_law_1577 rfl (lv_at hl 5 rfl) ?_
  refine l_mi (As := []) (rest := []) E G hA hKm hKb hX.2.2.2.2 hml (m_thrown l D cI cJ cZ am (mi mS0 0 1)) (cwV 0 hts (glM (L := [Cond.methodLink RL 204 yX12_thrown, Cond.instanceMethod yX12_thrown, Cond.selects RX12 yX12_thrown yX12_thrown, Cond.initialized RX12]) (gl_in [(8, 65), (8, 66), (8, 67), (1, 14)] (by decide +kernel) (by decide +kernel)) ⟨(t_of [Cond.code yX12_thrown cX12_thrown 1 (some .int)] [(8, 68)] (by decide +kernel) _ List.mem_cons_self), List.all_eq_true.mp (by decide +kernel : [Cond.code yX12_thrown cX12_thrown 1 (some .int)].all goodWord = true) _ List.mem_cons_self⟩) rfl rfl rfl (by decide +kernel) ⟨Nat.le_of_ble_eq_true rfl, Nat.le_of_ble_eq_true rfl⟩) rfl hl.1 rfl (lv_room (Nat.le_of_ble_eq_true rfl)) dL_law_1578 ⟨Nat.le_of_ble_eq_true rfl, Nat.le_of_ble_eq_true rfl⟩ (fun r2 S1 H locs hq G => ?_)
  obtain ⟨hq1, hq2⟩ := hq
  rw [hq2] at G
  refine lv_to (y := 1) hq1 ?_
  refine lv_iload hx hb dL_law_1581 (lv_at hl 1 rfl) ?_
  refine lv_icmp_eq (tgt := 1588) hx hb dL_law_1583 (by decide) (fun c3 => ?_) (fun c3 => absurd (by decide +kernel) c3)
  refine lv_iload hx hb dL_law_1588 (lv_at hl 1 rfl) ?_
  refine lv_if_ne (tgt := 1604) hx hb dL_law_1590 (by decide) (fun c4 => ?_) (fun c4 => absurd c4 (by decide +kernel))
  refine lv_goto (tgt := 3975) hx hb dL_law_1604 (by decide) ?_
  refine lv_iinc (v := 6) (lv' := [(5, .int 6), (7, .long r1), (6, .int 1), (4, .ref (am 99)), (3, .ref (am 98)), (2, .ref (am 0)), (1, .ref (ad 0)), (0, .ref b)]) hx hb dL_law_3975 hl (k := 2) rfl (by decide +kernel) (by decide) rfl (fun ls hl => ?_)
  refine lv_goto (tgt := 28) hx hb dL_law_3978 (by decide) ?_
  refine lv_iload hx hb dL_law_28 (lv_at hl 0 rfl) ?_
  refine lv_aload_n hx hb dL_law_30 rfl (lv_at hl 7 rfl) ?_
  refine va_slen hx hb hX0 hbl (Nat.not_le.mpr hbl) G.2.2 dL_law_31 ?_
  refine lv_to (y := 6) (by decide) ?_
  refine lv_bipush (v := 6) hx hb dL_law_32 (by decide) ?_
  refine lv_isub hx hb dL_law_34 ?_
  refine lv_to (y := 0) (by decide +kernel) ?_
  refine lv_icmp_gt (tgt := 3981) hx hb dL_law_35 (by decide) (fun c5 => ?_) (fun c5 => absurd (by decide +kernel) c5)
  refine lv_iconst (v := 1) hx hb dL_law_3981 (by decide) ?_
  refine va_forget G.2.2.2.2 ?_
  refine W.widen (k := 600002) (n := 7302232) (Nat.le_of_ble_eq_true rfl) (Nat.le_of_ble_eq_true rfl) ?_
  exact lw_ret (d0 := s.drawn) (Drawn.sameBut.refl s.drawn lw_cs) hx hb hr hlocks dL_law_3982
set_option maxHeartbeats 4000000 in
set_option maxRecDepth 100000 in
theorem p_a27 {p : Program} {e : Env} {s : State} {m : MethodId} {below : List Frame} {meth : Method} {c : Code} (l : Launch) (hst : l.stackTraces = false) {b : Nat} {xs : Nat → Int32} (hx : p.tables.exec = Jvm.exec) (hb : c.code = code) (hr : meth.sig.returnType = ret) (hml : c.maxLocals = 9) (hown : s.vm.findClass RL = some m.cls) (hts : ∀ w ∈ lw_tbl, w.before #[Value.ref b] s = true) (hlocks : meth.locks = false) (hX0 : va_X b 6 xs s s.heap) (hbl : b < s.heap.size) (hX : xT (fun q => s.heap.size ≤ q) s) (hN1 : va_Nc xIAE xIOB s) (hN2 : va_Nc xISE xIOB s) {D : va_G} {cI cJ cZ cMic cSrc cSt cAI cAJ cD : ClassId} {ad am : Nat → Nat} {N : Nat} {S : Nat → va_E} {ls : Array Slot} {H : Heap} {locs : List Loc} (hK : va_K D vwCl (CT cI cJ cZ cMic cSrc cSt cAI cAJ ++ [(cD, .double)]) s) (hN : 1586 ≤ N) (F : FR cI cJ cZ cMic cSrc cSt cAI cAJ ad S) (G : lG D ad N cI cJ cZ am (fun q => s.heap.size ≤ q) s.heap H locs S mS0) (hl : lv_has ls 9 [(5, .int 0), (4, .ref (am 99)), (3, .ref (am 98)), (2, .ref (am 0)), (1, .ref (ad 0)), (0, .ref b)]) : W p l e room_1 s m #[Value.ref b] below meth c H locs 1605 82603 (lw_Z below #[Value.ref b] s) (F0 m 1607 ls []) := by
  obtain ⟨hS0, hS1, hS2, hS3, hS4, hS5, hS6, hS432, hS478, hS480, hS656, hS658⟩ := F
  have E : cE p c cL_law s m #[Value.ref b] lw_tbl D RL (CT cI cJ cZ cMic cSrc cSt cAI cAJ ++ [(cD, .double)]) := ⟨hx, hb, hts, hown, hK⟩
  have hKm : va_K D vwCl (MT cI cJ cZ) s := hK.sub [0, 1, 2] rfl
  have hKb : ∀ t : State, s.vm.Alike t.vm → va_K D vwCl (CT cI cJ cZ cMic cSrc cSt cAI cAJ ++ [(cD, .double)]) t := fun t h => va_K.moved h hK
  have hA : ∀ q : Nat, s.heap.size ≤ q → s.heap.size ≤ q := fun _ h => h
  refine lv_aload_n hx hb dL_law_1607 rfl (lv_at hl 4 rfl) ?_
  refine lv_aload_n hx hb dL_law_1608 rfl (lv_at hl 2 rfl) ?_
  refine l_w (As := [.ref (ad 0), .ref (am 98)]) (rest := []) E G hA hX hN1 hN2 (fun _ _ h _ _ k => va_Nc.moved h k) rfl hml (w_peaks l hst D _ ad N S (sc := 478) (Nat.lt_of_lt_of_le (by decide) hN) hS0 rfl (Nat.lt_of_lt_of_le (by decide) hN) hS478 rfl (am 98)) (vx_cwSW 2 hts (glA (L := [Cond.methodLink RL 293 yL_peaks, Cond.static yL_peaks, Cond.initialized RL]) (gl_in [(6, 51), (6, 52), (1, 0)] (by decide +kernel) (by decide +kernel)) ⟨(t_of [Cond.codeWith yL_peaks cL_peaks 3 (some .int) [(0, 8, 11, 21)]] [(6, 53)] (by decide +kernel) _ List.mem_cons_self), List.all_eq_true.mp (by decide +kernel : [Cond.codeWith yL_peaks cL_peaks 3 (some .int) [(0, 8, 11, 21)]].all goodWord = true) _ List.mem_cons_self⟩) rfl rfl rfl (by decide +kernel) ⟨Nat.le_of_ble_eq_true rfl, Nat.le_of_ble_eq_true rfl⟩) rfl hl.1 rfl (lv_room (Nat.le_of_ble_eq_true rfl)) dL_law_1609 ⟨Nat.le_of_ble_eq_true rfl, Nat.le_of_ble_eq_true rfl⟩ (fun r S1 H locs hq G => ?_)
  obtain ⟨hq1, hq2⟩ := hq
  rw [hq2] at G
  refine lv_to (y := 1) hq1 ?_
  refine lv_istore (lv' := [(6, .int 1), (5, .int 0), (4, .ref (am 99)), (3, .ref (am 98)), (2, .ref (am 0)), (1, .ref (ad 0)), (0, .ref b)]) hx hb dL_law_1612 hl (by decide) rfl (fun ls hl => ?_)
  refine lv_aload_n hx hb dL_law_1614 rfl (lv_at hl 4 rfl) ?_
  refine l_mi (As := []) (rest := []) E G hA hKm hKb hX.2.2.2.2 hml (n_peaks l D cI cJ cZ am mS0 rfl (fun _ => rfl)) (cwV 0 hts (glM (L := [Cond.methodLink RL 295 yX12_peaks, Cond.instanceMethod yX12_peaks, Cond.selects RX12 yX12_peaks yX12_peaks, Cond.initialized RX12]) (gl_in [(9, 200), (9, 201), (9, 202), (1, 14)] (by decide +kernel) (by decide +kernel)) ⟨(t_of [Cond.code yX12_peaks cX12_peaks 3 (some .int)] [(9, 203)] (by decide +kernel) _ List.mem_cons_self), List.all_eq_true.mp (by decide +kernel : [Cond.code yX12_peaks cX12_peaks 3 (some .int)].all goodWord = true) _ List.mem_cons_self⟩) rfl rfl rfl (by decide +kernel) ⟨Nat.le_of_ble_eq_true rfl, Nat.le_of_ble_eq_true rfl⟩) rfl hl.1 rfl (lv_room (Nat.le_of_ble_eq_true rfl)) dL_law_1615 ⟨Nat.le_of_ble_eq_true rfl, Nat.le_of_ble_eq_true rfl⟩ (fun r1 S1 H locs hq G => ?_)
  obtain ⟨hq1, hq2⟩ := hq
  rw [hq2] at G
  refine lv_to (y := 0) hq1 ?_
  refine lv_istore (lv' := [(7, .int 0), (6, .int 1), (5, .int 0), (4, .ref (am 99)), (3, .ref (am 98)), (2, .ref (am 0)), (1, .ref (ad 0)), (0, .ref b)]) hx hb dL_law_1618 hl (by decide) rfl (fun ls hl => ?_)
  refine lv_aload_n hx hb dL_law_1620 rfl (lv_at hl 5 rfl) ?_
  refine l_mi (As := []) (rest := []) E G hA hKm hKb hX.2.2.2.2 hml (m_thrown l D cI cJ cZ am (mi mS0 0 1)) (cwV 0 hts (glM (L := [Cond.methodLink RL 204 yX12_thrown, Cond.instanceMethod yX12_thrown, Cond.selects RX12 yX12_thrown yX12_thrown, Cond.initialized RX12]) (gl_in [(8, 65), (8, 66), (8, 67), (1, 14)] (by decide +kernel) (by decide +kernel)) ⟨(t_of [Cond.code yX12_thrown cX12_thrown 1 (some .int)] [(8, 68)] (by decide +kernel) _ List.mem_cons_self), List.all_eq_true.mp (by decide +kernel : [Cond.code yX12_thrown cX12_thrown 1 (some .int)].all goodWord = true) _ List.mem_cons_self⟩) rfl rfl rfl (by decide +kernel) ⟨Nat.le_of_ble_eq_true rfl, Nat.le_of_ble_eq_true rfl⟩) rfl hl.1 rfl (lv_room (Nat.le_of_ble_eq_true rfl)) dL_law_1621 ⟨Nat.le_of_ble_eq_true rfl, Nat.le_of_ble_eq_true rfl⟩ (fun r2 S1 H locs hq G => ?_)
  obtain ⟨hq1, hq2⟩ := hq
  rw [hq2] at G
  refine lv_to (y := 1) hq1 ?_
  refine lv_iload hx hb dL_law_1624 (lv_at hl 1 rfl) ?_
  refine lv_icmp_eq (tgt := 1631) hx hb dL_law_1626 (by decide) (fun c3 => ?_) (fun c3 => absurd (by decide +kernel) c3)
  refine lv_iload hx hb dL_law_1631 (lv_at hl 1 rfl) ?_
  refine lv_if_ne (tgt := 1648) hx hb dL_law_1633 (by decide) (fun c4 => ?_) (fun c4 => absurd c4 (by decide +kernel))
  refine lv_goto (tgt := 3975) hx hb dL_law_1648 (by decide) ?_
  refine lv_iinc (v := 6) (lv' := [(5, .int 6), (7, .int 0), (6, .int 1), (4, .ref (am 99)), (3, .ref (am 98)), (2, .ref (am 0)), (1, .ref (ad 0)), (0, .ref b)]) hx hb dL_law_3975 hl (k := 2) rfl (by decide +kernel) (by decide) rfl (fun ls hl => ?_)
  refine lv_goto (tgt := 28) hx hb dL_law_3978 (by decide) ?_
  refine lv_iload hx hb dL_law_28 (lv_at hl 0 rfl) ?_
  refine lv_aload_n hx hb dL_law_30 rfl (lv_at hl 7 rfl) ?_
  refine va_slen hx hb hX0 hbl (Nat.not_le.mpr hbl) G.2.2 dL_law_31 ?_
  refine lv_to (y := 6) (by decide) ?_
  refine lv_bipush (v := 6) hx hb dL_law_32 (by decide) ?_
  refine lv_isub hx hb dL_law_34 ?_
  refine lv_to (y := 0) (by decide +kernel) ?_
  refine lv_icmp_gt (tgt := 3981) hx hb dL_law_35 (by decide) (fun c5 => ?_) (fun c5 => absurd (by decide +kernel) c5)
  refine lv_iconst (v := 1) hx hb dL_law_3981 (by decide) ?_
  refine va_forget G.2.2.2.2 ?_
  refine W.widen (k := 600002) (n := 7302232) (Nat.le_of_ble_eq_true rfl) (Nat.le_of_ble_eq_true rfl) ?_
  exact lw_ret (d0 := s.drawn) (Drawn.sameBut.refl s.drawn lw_cs) hx hb hr hlocks dL_law_3982
set_option maxHeartbeats 4000000 in
set_option maxRecDepth 100000 in
theorem p_a28 {p : Program} {e : Env} {s : State} {m : MethodId} {below : List Frame} {meth : Method} {c : Code} (l : Launch) (hst : l.stackTraces = false) {b : Nat} {xs : Nat → Int32} (hx : p.tables.exec = Jvm.exec) (hb : c.code = code) (hr : meth.sig.returnType = ret) (hml : c.maxLocals = 9) (hown : s.vm.findClass RL = some m.cls) (hts : ∀ w ∈ lw_tbl, w.before #[Value.ref b] s = true) (hlocks : meth.locks = false) (hX0 : va_X b 6 xs s s.heap) (hbl : b < s.heap.size) (hX : xT (fun q => s.heap.size ≤ q) s) (hN1 : va_Nc xIAE xIOB s) (hN2 : va_Nc xISE xIOB s) {D : va_G} {cI cJ cZ cMic cSrc cSt cAI cAJ cD : ClassId} {ad am : Nat → Nat} {N : Nat} {S : Nat → va_E} {ls : Array Slot} {H : Heap} {locs : List Loc} (hK : va_K D vwCl (CT cI cJ cZ cMic cSrc cSt cAI cAJ ++ [(cD, .double)]) s) (hN : 1586 ≤ N) (F : FR cI cJ cZ cMic cSrc cSt cAI cAJ ad S) (G : lG D ad N cI cJ cZ am (fun q => s.heap.size ≤ q) s.heap H locs S mS0) (hl : lv_has ls 9 [(5, .int 0), (4, .ref (am 99)), (3, .ref (am 98)), (2, .ref (am 0)), (1, .ref (ad 0)), (0, .ref b)]) : W p l e room_1 s m #[Value.ref b] below meth c H locs 1605 82603 (lw_Z below #[Value.ref b] s) (F0 m 1651 ls []) := by
  obtain ⟨hS0, hS1, hS2, hS3, hS4, hS5, hS6, hS432, hS478, hS480, hS656, hS658⟩ := F
  have E : cE p c cL_law s m #[Value.ref b] lw_tbl D RL (CT cI cJ cZ cMic cSrc cSt cAI cAJ ++ [(cD, .double)]) := ⟨hx, hb, hts, hown, hK⟩
  have hKm : va_K D vwCl (MT cI cJ cZ) s := hK.sub [0, 1, 2] rfl
  have hKb : ∀ t : State, s.vm.Alike t.vm → va_K D vwCl (CT cI cJ cZ cMic cSrc cSt cAI cAJ ++ [(cD, .double)]) t := fun t h => va_K.moved h hK
  have hA : ∀ q : Nat, s.heap.size ≤ q → s.heap.size ≤ q := fun _ h => h
  refine lv_aload_n hx hb dL_law_1651 rfl (lv_at hl 4 rfl) ?_
  refine lv_aload_n hx hb dL_law_1652 rfl (lv_at hl 5 rfl) ?_
  refine lv_iload hx hb dL_law_1653 (lv_at hl 0 rfl) ?_
  refine lv_iconst (v := 1) hx hb dL_law_1655 (by decide) ?_
  refine lv_iadd hx hb dL_law_1656 ?_
  refine lv_to (y := 1) (by decide +kernel) ?_
  refine va_sld hx hb hX0 hbl (Nat.not_le.mpr hbl) G.2.2 (i := 1) (vp_in_nI (n := 1) (N := 6) (by decide) (by decide)) dL_law_1657 ?_
  refine lv_to (y := xs 1) (congrArg xs (by decide)) ?_
  refine lv_aload_n hx hb dL_law_1658 rfl (lv_at hl 2 rfl) ?_
  refine l_w (As := [.ref (ad 0), .int (xs 1), .ref (am 98)]) (rest := []) E G hA hX hN1 hN2 (fun _ _ h _ _ k => va_Nc.moved h k) rfl hml (w_peakAt l hst D _ ad N S (sc := 478) (Nat.lt_of_lt_of_le (by decide) hN) hS0 rfl (Nat.lt_of_lt_of_le (by decide) hN) hS478 rfl (xs 1) (am 98)) (vx_cwSW 3 hts (glA (L := [Cond.methodLink RL 296 yL_peakAt, Cond.static yL_peakAt, Cond.initialized RL]) (gl_in [(6, 58), (6, 59), (1, 0)] (by decide +kernel) (by decide +kernel)) ⟨(t_of [Cond.codeWith yL_peakAt cL_peakAt 4 (some .int) [(0, 9, 12, 21), (0, 9, 15, 13)]] [(6, 60)] (by decide +kernel) _ List.mem_cons_self), List.all_eq_true.mp (by decide +kernel : [Cond.codeWith yL_peakAt cL_peakAt 4 (some .int) [(0, 9, 12, 21), (0, 9, 15, 13)]].all goodWord = true) _ List.mem_cons_self⟩) rfl rfl rfl (by decide +kernel) ⟨Nat.le_of_ble_eq_true rfl, Nat.le_of_ble_eq_true rfl⟩) rfl hl.1 rfl (lv_room (Nat.le_of_ble_eq_true rfl)) dL_law_1659 ⟨Nat.le_of_ble_eq_true rfl, Nat.le_of_ble_eq_true rfl⟩ (fun r S1 H locs hq G => ?_)
  obtain ⟨hq1, hq2⟩ := hq
  rw [hq2] at G
  refine lv_to (y := 1) hq1 ?_
  refine lv_istore (lv' := [(6, .int 1), (5, .int 0), (4, .ref (am 99)), (3, .ref (am 98)), (2, .ref (am 0)), (1, .ref (ad 0)), (0, .ref b)]) hx hb dL_law_1662 hl (by decide) rfl (fun ls hl => ?_)
  refine lv_aload_n hx hb dL_law_1664 rfl (lv_at hl 4 rfl) ?_
  refine lv_aload_n hx hb dL_law_1665 rfl (lv_at hl 6 rfl) ?_
  refine lv_iload hx hb dL_law_1666 (lv_at hl 1 rfl) ?_
  refine lv_iconst (v := 1) hx hb dL_law_1668 (by decide) ?_
  refine lv_iadd hx hb dL_law_1669 ?_
  refine lv_to (y := 1) (by decide +kernel) ?_
  refine va_sld hx hb hX0 hbl (Nat.not_le.mpr hbl) G.2.2 (i := 1) (vp_in_nI (n := 1) (N := 6) (by decide) (by decide)) dL_law_1670 ?_
  refine lv_to (y := xs 1) (congrArg xs (by decide)) ?_
  refine l_mi (As := [.int (xs 1)]) (rest := []) E G hA hKm hKb hX.2.2.2.2 hml (n_peakAt l D cI cJ cZ am mS0 (xs 1) rfl (fun _ => rfl)) (cwV 1 hts (glM (L := [Cond.methodLink RL 298 yX12_peakAt, Cond.instanceMethod yX12_peakAt, Cond.selects RX12 yX12_peakAt yX12_peakAt, Cond.initialized RX12]) (gl_in [(9, 208), (9, 209), (9, 210), (1, 14)] (by decide +kernel) (by decide +kernel)) ⟨(t_of [Cond.code yX12_peakAt cX12_peakAt 5 (some .int)] [(9, 211)] (by decide +kernel) _ List.mem_cons_self), List.all_eq_true.mp (by decide +kernel : [Cond.code yX12_peakAt cX12_peakAt 5 (some .int)].all goodWord = true) _ List.mem_cons_self⟩) rfl rfl rfl (by decide +kernel) ⟨Nat.le_of_ble_eq_true rfl, Nat.le_of_ble_eq_true rfl⟩) rfl hl.1 rfl (lv_room (Nat.le_of_ble_eq_true rfl)) dL_law_1671 ⟨Nat.le_of_ble_eq_true rfl, Nat.le_of_ble_eq_true rfl⟩ (fun r1 S1 H locs hq G => ?_)
  obtain ⟨hq1, hq2⟩ := hq
  rw [hq2] at G
  refine lv_to (y := 0) hq1 ?_
  refine lv_istore (lv' := [(7, .int 0), (6, .int 1), (5, .int 0), (4, .ref (am 99)), (3, .ref (am 98)), (2, .ref (am 0)), (1, .ref (ad 0)), (0, .ref b)]) hx hb dL_law_1674 hl (by decide) rfl (fun ls hl => ?_)
  refine lv_aload_n hx hb dL_law_1676 rfl (lv_at hl 5 rfl) ?_
  refine l_mi (As := []) (rest := []) E G hA hKm hKb hX.2.2.2.2 hml (m_thrown l D cI cJ cZ am (mi mS0 0 1)) (cwV 0 hts (glM (L := [Cond.methodLink RL 204 yX12_thrown, Cond.instanceMethod yX12_thrown, Cond.selects RX12 yX12_thrown yX12_thrown, Cond.initialized RX12]) (gl_in [(8, 65), (8, 66), (8, 67), (1, 14)] (by decide +kernel) (by decide +kernel)) ⟨(t_of [Cond.code yX12_thrown cX12_thrown 1 (some .int)] [(8, 68)] (by decide +kernel) _ List.mem_cons_self), List.all_eq_true.mp (by decide +kernel : [Cond.code yX12_thrown cX12_thrown 1 (some .int)].all goodWord = true) _ List.mem_cons_self⟩) rfl rfl rfl (by decide +kernel) ⟨Nat.le_of_ble_eq_true rfl, Nat.le_of_ble_eq_true rfl⟩) rfl hl.1 rfl (lv_room (Nat.le_of_ble_eq_true rfl)) dL_law_1677 ⟨Nat.le_of_ble_eq_true rfl, Nat.le_of_ble_eq_true rfl⟩ (fun r2 S1 H locs hq G => ?_)
  obtain ⟨hq1, hq2⟩ := hq
  rw [hq2] at G
  refine lv_to (y := 1) hq1 ?_
  refine lv_iload hx hb dL_law_1680 (lv_at hl 1 rfl) ?_
  refine lv_icmp_eq (tgt := 1687) hx hb dL_law_1682 (by decide) (fun c3 => ?_) (fun c3 => absurd (by decide +kernel) c3)
  refine lv_iload hx hb dL_law_1687 (lv_at hl 1 rfl) ?_
  refine lv_if_ne (tgt := 1704) hx hb dL_law_1689 (by decide) (fun c4 => ?_) (fun c4 => absurd c4 (by decide +kernel))
  refine lv_goto (tgt := 3975) hx hb dL_law_1704 (by decide) ?_
  refine lv_iinc (v := 6) (lv' := [(5, .int 6), (7, .int 0), (6, .int 1), (4, .ref (am 99)), (3, .ref (am 98)), (2, .ref (am 0)), (1, .ref (ad 0)), (0, .ref b)]) hx hb dL_law_3975 hl (k := 2) rfl (by decide +kernel) (by decide) rfl (fun ls hl => ?_)
  refine lv_goto (tgt := 28) hx hb dL_law_3978 (by decide) ?_
  refine lv_iload hx hb dL_law_28 (lv_at hl 0 rfl) ?_
  refine lv_aload_n hx hb dL_law_30 rfl (lv_at hl 7 rfl) ?_
  refine va_slen hx hb hX0 hbl (Nat.not_le.mpr hbl) G.2.2 dL_law_31 ?_
  refine lv_to (y := 6) (by decide) ?_
  refine lv_bipush (v := 6) hx hb dL_law_32 (by decide) ?_
  refine lv_isub hx hb dL_law_34 ?_
  refine lv_to (y := 0) (by decide +kernel) ?_
  refine lv_icmp_gt (tgt := 3981) hx hb dL_law_35 (by decide) (fun c5 => ?_) (fun c5 => absurd (by decide +kernel) c5)
  refine lv_iconst (v := 1) hx hb dL_law_3981 (by decide) ?_
  refine va_forget G.2.2.2.2 ?_
  refine W.widen (k := 600002) (n := 7302232) (Nat.le_of_ble_eq_true rfl) (Nat.le_of_ble_eq_true rfl) ?_
  exact lw_ret (d0 := s.drawn) (Drawn.sameBut.refl s.drawn lw_cs) hx hb hr hlocks dL_law_3982
set_option maxHeartbeats 4000000 in
set_option maxRecDepth 100000 in
theorem p_a29 {p : Program} {e : Env} {s : State} {m : MethodId} {below : List Frame} {meth : Method} {c : Code} (l : Launch) (hst : l.stackTraces = false) {b : Nat} {xs : Nat → Int32} (hx : p.tables.exec = Jvm.exec) (hb : c.code = code) (hr : meth.sig.returnType = ret) (hml : c.maxLocals = 9) (hown : s.vm.findClass RL = some m.cls) (hts : ∀ w ∈ lw_tbl, w.before #[Value.ref b] s = true) (hlocks : meth.locks = false) (hX0 : va_X b 6 xs s s.heap) (hbl : b < s.heap.size) (hX : xT (fun q => s.heap.size ≤ q) s) (hN1 : va_Nc xIAE xIOB s) (hN2 : va_Nc xISE xIOB s) {D : va_G} {cI cJ cZ cMic cSrc cSt cAI cAJ cD : ClassId} {ad am : Nat → Nat} {N : Nat} {S : Nat → va_E} {ls : Array Slot} {H : Heap} {locs : List Loc} (hK : va_K D vwCl (CT cI cJ cZ cMic cSrc cSt cAI cAJ ++ [(cD, .double)]) s) (hN : 1586 ≤ N) (F : FR cI cJ cZ cMic cSrc cSt cAI cAJ ad S) (G : lG D ad N cI cJ cZ am (fun q => s.heap.size ≤ q) s.heap H locs S mS0) (hl : lv_has ls 9 [(5, .int 0), (4, .ref (am 99)), (3, .ref (am 98)), (2, .ref (am 0)), (1, .ref (ad 0)), (0, .ref b)]) : W p l e room_1 s m #[Value.ref b] below meth c H locs 1605 82603 (lw_Z below #[Value.ref b] s) (F0 m 1707 ls []) := by
  obtain ⟨hS0, hS1, hS2, hS3, hS4, hS5, hS6, hS432, hS478, hS480, hS656, hS658⟩ := F
  have E : cE p c cL_law s m #[Value.ref b] lw_tbl D RL (CT cI cJ cZ cMic cSrc cSt cAI cAJ ++ [(cD, .double)]) := ⟨hx, hb, hts, hown, hK⟩
  have hKm : va_K D vwCl (MT cI cJ cZ) s := hK.sub [0, 1, 2] rfl
  have hKb : ∀ t : State, s.vm.Alike t.vm → va_K D vwCl (CT cI cJ cZ cMic cSrc cSt cAI cAJ ++ [(cD, .double)]) t := fun t h => va_K.moved h hK
  have hA : ∀ q : Nat, s.heap.size ≤ q → s.heap.size ≤ q := fun _ h => h
  refine lv_aload_n hx hb dL_law_1707 rfl (lv_at hl 4 rfl) ?_
  refine lv_aload_n hx hb dL_law_1708 rfl (lv_at hl 5 rfl) ?_
  refine lv_iload hx hb dL_law_1709 (lv_at hl 0 rfl) ?_
  refine lv_iconst (v := 1) hx hb dL_law_1711 (by decide) ?_
  refine lv_iadd hx hb dL_law_1712 ?_
  refine lv_to (y := 1) (by decide +kernel) ?_
  refine va_sld hx hb hX0 hbl (Nat.not_le.mpr hbl) G.2.2 (i := 1) (vp_in_nI (n := 1) (N := 6) (by decide) (by decide)) dL_law_1713 ?_
  refine lv_to (y := xs 1) (congrArg xs (by decide)) ?_
  refine lv_aload_n hx hb dL_law_1714 rfl (lv_at hl 2 rfl) ?_
  refine l_w (As := [.ref (ad 0), .int (xs 1), .ref (am 98)]) (rest := []) E G hA hX hN1 hN2 (fun _ _ h _ _ k => va_Nc.moved h k) rfl hml (w_isPeak l hst D _ ad N S (sc := 478) (Nat.lt_of_lt_of_le (by decide) hN) hS0 rfl (Nat.lt_of_lt_of_le (by decide) hN) hS478 rfl (xs 1) (am 98)) (vx_cwSW 3 hts (glA (L := [Cond.methodLink RL 299 yL_isPeak, Cond.static yL_isPeak, Cond.initialized RL]) (gl_in [(6, 74), (6, 75), (1, 0)] (by decide +kernel) (by decide +kernel)) ⟨(t_of [Cond.codeWith yL_isPeak cL_isPeak 4 (some .int) [(0, 16, 19, 21), (0, 16, 22, 13)]] [(6, 76)] (by decide +kernel) _ List.mem_cons_self), List.all_eq_true.mp (by decide +kernel : [Cond.codeWith yL_isPeak cL_isPeak 4 (some .int) [(0, 16, 19, 21), (0, 16, 22, 13)]].all goodWord = true) _ List.mem_cons_self⟩) rfl rfl rfl (by decide +kernel) ⟨Nat.le_of_ble_eq_true rfl, Nat.le_of_ble_eq_true rfl⟩) rfl hl.1 rfl (lv_room (Nat.le_of_ble_eq_true rfl)) dL_law_1715 ⟨Nat.le_of_ble_eq_true rfl, Nat.le_of_ble_eq_true rfl⟩ (fun r S1 H locs hq G => ?_)
  obtain ⟨hq1, hq2⟩ := hq
  rw [hq2] at G
  refine lv_to (y := 1) hq1 ?_
  refine lv_istore (lv' := [(6, .int 1), (5, .int 0), (4, .ref (am 99)), (3, .ref (am 98)), (2, .ref (am 0)), (1, .ref (ad 0)), (0, .ref b)]) hx hb dL_law_1718 hl (by decide) rfl (fun ls hl => ?_)
  refine lv_aload_n hx hb dL_law_1720 rfl (lv_at hl 4 rfl) ?_
  refine lv_aload_n hx hb dL_law_1721 rfl (lv_at hl 6 rfl) ?_
  refine lv_iload hx hb dL_law_1722 (lv_at hl 1 rfl) ?_
  refine lv_iconst (v := 1) hx hb dL_law_1724 (by decide) ?_
  refine lv_iadd hx hb dL_law_1725 ?_
  refine lv_to (y := 1) (by decide +kernel) ?_
  refine va_sld hx hb hX0 hbl (Nat.not_le.mpr hbl) G.2.2 (i := 1) (vp_in_nI (n := 1) (N := 6) (by decide) (by decide)) dL_law_1726 ?_
  refine lv_to (y := xs 1) (congrArg xs (by decide)) ?_
  refine l_mi (As := [.int (xs 1)]) (rest := []) E G hA hKm hKb hX.2.2.2.2 hml (n_isPeak l D cI cJ cZ am mS0 (xs 1) rfl (fun _ => rfl)) (cwV 1 hts (glM (L := [Cond.methodLink RL 301 yX12_isPeak, Cond.instanceMethod yX12_isPeak, Cond.selects RX12 yX12_isPeak yX12_isPeak, Cond.initialized RX12]) (gl_in [(9, 216), (9, 217), (9, 218), (1, 14)] (by decide +kernel) (by decide +kernel)) ⟨(t_of [Cond.code yX12_isPeak cX12_isPeak 2 (some .boolean)] [(9, 219)] (by decide +kernel) _ List.mem_cons_self), List.all_eq_true.mp (by decide +kernel : [Cond.code yX12_isPeak cX12_isPeak 2 (some .boolean)].all goodWord = true) _ List.mem_cons_self⟩) rfl rfl rfl (by decide +kernel) ⟨Nat.le_of_ble_eq_true rfl, Nat.le_of_ble_eq_true rfl⟩) rfl hl.1 rfl (lv_room (Nat.le_of_ble_eq_true rfl)) dL_law_1727 ⟨Nat.le_of_ble_eq_true rfl, Nat.le_of_ble_eq_true rfl⟩ (fun r1 S1 H locs hq G => ?_)
  obtain ⟨hq1, hq2⟩ := hq
  rw [hq2] at G
  refine lv_to (y := 0) hq1 ?_
  refine lv_istore (lv' := [(7, .int 0), (6, .int 1), (5, .int 0), (4, .ref (am 99)), (3, .ref (am 98)), (2, .ref (am 0)), (1, .ref (ad 0)), (0, .ref b)]) hx hb dL_law_1730 hl (by decide) rfl (fun ls hl => ?_)
  refine lv_aload_n hx hb dL_law_1732 rfl (lv_at hl 5 rfl) ?_
  refine l_mi (As := []) (rest := []) E G hA hKm hKb hX.2.2.2.2 hml (m_thrown l D cI cJ cZ am (mi mS0 0 1)) (cwV 0 hts (glM (L := [Cond.methodLink RL 204 yX12_thrown, Cond.instanceMethod yX12_thrown, Cond.selects RX12 yX12_thrown yX12_thrown, Cond.initialized RX12]) (gl_in [(8, 65), (8, 66), (8, 67), (1, 14)] (by decide +kernel) (by decide +kernel)) ⟨(t_of [Cond.code yX12_thrown cX12_thrown 1 (some .int)] [(8, 68)] (by decide +kernel) _ List.mem_cons_self), List.all_eq_true.mp (by decide +kernel : [Cond.code yX12_thrown cX12_thrown 1 (some .int)].all goodWord = true) _ List.mem_cons_self⟩) rfl rfl rfl (by decide +kernel) ⟨Nat.le_of_ble_eq_true rfl, Nat.le_of_ble_eq_true rfl⟩) rfl hl.1 rfl (lv_room (Nat.le_of_ble_eq_true rfl)) dL_law_1733 ⟨Nat.le_of_ble_eq_true rfl, Nat.le_of_ble_eq_true rfl⟩ (fun r2 S1 H locs hq G => ?_)
  obtain ⟨hq1, hq2⟩ := hq
  rw [hq2] at G
  refine lv_to (y := 1) hq1 ?_
  refine lv_iload hx hb dL_law_1736 (lv_at hl 1 rfl) ?_
  refine lv_icmp_eq (tgt := 1743) hx hb dL_law_1738 (by decide) (fun c3 => ?_) (fun c3 => absurd (by decide +kernel) c3)
  refine lv_iload hx hb dL_law_1743 (lv_at hl 1 rfl) ?_
  refine lv_if_ne (tgt := 1767) hx hb dL_law_1745 (by decide) (fun c4 => ?_) (fun c4 => absurd c4 (by decide +kernel))
  refine lv_goto (tgt := 3975) hx hb dL_law_1767 (by decide) ?_
  refine lv_iinc (v := 6) (lv' := [(5, .int 6), (7, .int 0), (6, .int 1), (4, .ref (am 99)), (3, .ref (am 98)), (2, .ref (am 0)), (1, .ref (ad 0)), (0, .ref b)]) hx hb dL_law_3975 hl (k := 2) rfl (by decide +kernel) (by decide) rfl (fun ls hl => ?_)
  refine lv_goto (tgt := 28) hx hb dL_law_3978 (by decide) ?_
  refine lv_iload hx hb dL_law_28 (lv_at hl 0 rfl) ?_
  refine lv_aload_n hx hb dL_law_30 rfl (lv_at hl 7 rfl) ?_
  refine va_slen hx hb hX0 hbl (Nat.not_le.mpr hbl) G.2.2 dL_law_31 ?_
  refine lv_to (y := 6) (by decide) ?_
  refine lv_bipush (v := 6) hx hb dL_law_32 (by decide) ?_
  refine lv_isub hx hb dL_law_34 ?_
  refine lv_to (y := 0) (by decide +kernel) ?_
  refine lv_icmp_gt (tgt := 3981) hx hb dL_law_35 (by decide) (fun c5 => ?_) (fun c5 => absurd (by decide +kernel) c5)
  refine lv_iconst (v := 1) hx hb dL_law_3981 (by decide) ?_
  refine va_forget G.2.2.2.2 ?_
  refine W.widen (k := 600002) (n := 7302232) (Nat.le_of_ble_eq_true rfl) (Nat.le_of_ble_eq_true rfl) ?_
  exact lw_ret (d0 := s.drawn) (Drawn.sameBut.refl s.drawn lw_cs) hx hb hr hlocks dL_law_3982
set_option maxHeartbeats 4000000 in
set_option maxRecDepth 100000 in
theorem p_a30 {p : Program} {e : Env} {s : State} {m : MethodId} {below : List Frame} {meth : Method} {c : Code} (l : Launch) (hst : l.stackTraces = false) {b : Nat} {xs : Nat → Int32} (hx : p.tables.exec = Jvm.exec) (hb : c.code = code) (hr : meth.sig.returnType = ret) (hml : c.maxLocals = 9) (hown : s.vm.findClass RL = some m.cls) (hts : ∀ w ∈ lw_tbl, w.before #[Value.ref b] s = true) (hlocks : meth.locks = false) (hX0 : va_X b 6 xs s s.heap) (hbl : b < s.heap.size) (hX : xT (fun q => s.heap.size ≤ q) s) (hN1 : va_Nc xIAE xIOB s) (hN2 : va_Nc xISE xIOB s) {D : va_G} {cI cJ cZ cMic cSrc cSt cAI cAJ cD : ClassId} {ad am : Nat → Nat} {N : Nat} {S : Nat → va_E} {ls : Array Slot} {H : Heap} {locs : List Loc} (hK : va_K D vwCl (CT cI cJ cZ cMic cSrc cSt cAI cAJ ++ [(cD, .double)]) s) (hN : 1586 ≤ N) (F : FR cI cJ cZ cMic cSrc cSt cAI cAJ ad S) (G : lG D ad N cI cJ cZ am (fun q => s.heap.size ≤ q) s.heap H locs S mS0) (hl : lv_has ls 9 [(5, .int 0), (4, .ref (am 99)), (3, .ref (am 98)), (2, .ref (am 0)), (1, .ref (ad 0)), (0, .ref b)]) : W p l e room_1 s m #[Value.ref b] below meth c H locs 1605 82603 (lw_Z below #[Value.ref b] s) (F0 m 1770 ls []) := by
  obtain ⟨hS0, hS1, hS2, hS3, hS4, hS5, hS6, hS432, hS478, hS480, hS656, hS658⟩ := F
  have E : cE p c cL_law s m #[Value.ref b] lw_tbl D RL (CT cI cJ cZ cMic cSrc cSt cAI cAJ ++ [(cD, .double)]) := ⟨hx, hb, hts, hown, hK⟩
  have hKm : va_K D vwCl (MT cI cJ cZ) s := hK.sub [0, 1, 2] rfl
  have hKb : ∀ t : State, s.vm.Alike t.vm → va_K D vwCl (CT cI cJ cZ cMic cSrc cSt cAI cAJ ++ [(cD, .double)]) t := fun t h => va_K.moved h hK
  have hA : ∀ q : Nat, s.heap.size ≤ q → s.heap.size ≤ q := fun _ h => h
  refine lv_aload_n hx hb dL_law_1770 rfl (lv_at hl 4 rfl) ?_
  refine lv_aload_n hx hb dL_law_1771 rfl (lv_at hl 5 rfl) ?_
  refine lv_iload hx hb dL_law_1772 (lv_at hl 0 rfl) ?_
  refine lv_iconst (v := 1) hx hb dL_law_1774 (by decide) ?_
  refine lv_iadd hx hb dL_law_1775 ?_
  refine lv_to (y := 1) (by decide +kernel) ?_
  refine va_sld hx hb hX0 hbl (Nat.not_le.mpr hbl) G.2.2 (i := 1) (vp_in_nI (n := 1) (N := 6) (by decide) (by decide)) dL_law_1776 ?_
  refine lv_to (y := xs 1) (congrArg xs (by decide)) ?_
  refine lv_aload_n hx hb dL_law_1777 rfl (lv_at hl 2 rfl) ?_
  refine l_w (As := [.ref (ad 0), .int (xs 1), .ref (am 98)]) (rest := []) E G hA hX hN1 hN2 (fun _ _ h _ _ k => va_Nc.moved h k) rfl hml (w_zonePower l hst D _ ad N S (sc := 478) (Nat.lt_of_lt_of_le (by decide) hN) hS0 rfl (Nat.lt_of_lt_of_le (by decide) hN) hS478 rfl (xs 1) (am 98)) (vx_cwSW 3 hts (glA (L := [Cond.methodLink RL 302 yL_zonePower, Cond.static yL_zonePower, Cond.initialized RL]) (gl_in [(6, 82), (6, 83), (1, 0)] (by decide +kernel) (by decide +kernel)) ⟨(t_of [Cond.codeWith yL_zonePower cL_zonePower 4 (some .int) [(0, 8, 11, 21), (0, 8, 14, 13)]] [(6, 84)] (by decide +kernel) _ List.mem_cons_self), List.all_eq_true.mp (by decide +kernel : [Cond.codeWith yL_zonePower cL_zonePower 4 (some .int) [(0, 8, 11, 21), (0, 8, 14, 13)]].all goodWord = true) _ List.mem_cons_self⟩) rfl rfl rfl (by decide +kernel) ⟨Nat.le_of_ble_eq_true rfl, Nat.le_of_ble_eq_true rfl⟩) rfl hl.1 rfl (lv_room (Nat.le_of_ble_eq_true rfl)) dL_law_1778 ⟨Nat.le_of_ble_eq_true rfl, Nat.le_of_ble_eq_true rfl⟩ (fun r S1 H locs hq G => ?_)
  obtain ⟨hq1, hq2⟩ := hq
  rw [hq2] at G
  refine lv_to (y := 1) hq1 ?_
  refine lv_istore (lv' := [(6, .int 1), (5, .int 0), (4, .ref (am 99)), (3, .ref (am 98)), (2, .ref (am 0)), (1, .ref (ad 0)), (0, .ref b)]) hx hb dL_law_1781 hl (by decide) rfl (fun ls hl => ?_)
  refine lv_aload_n hx hb dL_law_1783 rfl (lv_at hl 4 rfl) ?_
  refine lv_aload_n hx hb dL_law_1784 rfl (lv_at hl 6 rfl) ?_
  refine lv_iload hx hb dL_law_1785 (lv_at hl 1 rfl) ?_
  refine lv_iconst (v := 1) hx hb dL_law_1787 (by decide) ?_
  refine lv_iadd hx hb dL_law_1788 ?_
  refine lv_to (y := 1) (by decide +kernel) ?_
  refine va_sld hx hb hX0 hbl (Nat.not_le.mpr hbl) G.2.2 (i := 1) (vp_in_nI (n := 1) (N := 6) (by decide) (by decide)) dL_law_1789 ?_
  refine lv_to (y := xs 1) (congrArg xs (by decide)) ?_
  refine l_ml (As := [.int (xs 1)]) (rest := []) E G hA hKm hKb hX.2.2.2.2 hml (n_zonePower l D cI cJ cZ am mS0 (xs 1) rfl (fun _ => rfl)) (cwV 1 hts (glM (L := [Cond.methodLink RL 304 yX12_zonePower, Cond.instanceMethod yX12_zonePower, Cond.selects RX12 yX12_zonePower yX12_zonePower, Cond.initialized RX12]) (gl_in [(10, 69), (10, 70), (10, 71), (1, 14)] (by decide +kernel) (by decide +kernel)) ⟨(t_of [Cond.code yX12_zonePower cX12_zonePower 5 (some .long)] [(10, 72)] (by decide +kernel) _ List.mem_cons_self), List.all_eq_true.mp (by decide +kernel : [Cond.code yX12_zonePower cX12_zonePower 5 (some .long)].all goodWord = true) _ List.mem_cons_self⟩) rfl rfl rfl (by decide +kernel) ⟨Nat.le_of_ble_eq_true rfl, Nat.le_of_ble_eq_true rfl⟩) rfl hl.1 rfl (lv_room (Nat.le_of_ble_eq_true rfl)) dL_law_1790 ⟨Nat.le_of_ble_eq_true rfl, Nat.le_of_ble_eq_true rfl⟩ (fun r1 S1 H locs hq G => ?_)
  obtain ⟨hq1, hq2⟩ := hq
  rw [hq2] at G
  refine lv_lstore (lv' := [(7, .long r1), (6, .int 1), (5, .int 0), (4, .ref (am 99)), (3, .ref (am 98)), (2, .ref (am 0)), (1, .ref (ad 0)), (0, .ref b)]) hx hb dL_law_1793 hl (by decide) rfl (fun ls hl => ?_)
  refine lv_aload_n hx hb dL_law_1795 rfl (lv_at hl 5 rfl) ?_
  refine l_mi (As := []) (rest := []) E G hA hKm hKb hX.2.2.2.2 hml (m_thrown l D cI cJ cZ am (mi mS0 0 1)) (cwV 0 hts (glM (L := [Cond.methodLink RL 204 yX12_thrown, Cond.instanceMethod yX12_thrown, Cond.selects RX12 yX12_thrown yX12_thrown, Cond.initialized RX12]) (gl_in [(8, 65), (8, 66), (8, 67), (1, 14)] (by decide +kernel) (by decide +kernel)) ⟨(t_of [Cond.code yX12_thrown cX12_thrown 1 (some .int)] [(8, 68)] (by decide +kernel) _ List.mem_cons_self), List.all_eq_true.mp (by decide +kernel : [Cond.code yX12_thrown cX12_thrown 1 (some .int)].all goodWord = true) _ List.mem_cons_self⟩) rfl rfl rfl (by decide +kernel) ⟨Nat.le_of_ble_eq_true rfl, Nat.le_of_ble_eq_true rfl⟩) rfl hl.1 rfl (lv_room (Nat.le_of_ble_eq_true rfl)) dL_law_1796 ⟨Nat.le_of_ble_eq_true rfl, Nat.le_of_ble_eq_true rfl⟩ (fun r2 S1 H locs hq G => ?_)
  obtain ⟨hq1, hq2⟩ := hq
  rw [hq2] at G
  refine lv_to (y := 1) hq1 ?_
  refine lv_iload hx hb dL_law_1799 (lv_at hl 1 rfl) ?_
  refine lv_icmp_eq (tgt := 1806) hx hb dL_law_1801 (by decide) (fun c3 => ?_) (fun c3 => absurd (by decide +kernel) c3)
  refine lv_iload hx hb dL_law_1806 (lv_at hl 1 rfl) ?_
  refine lv_if_ne (tgt := 1822) hx hb dL_law_1808 (by decide) (fun c4 => ?_) (fun c4 => absurd c4 (by decide +kernel))
  refine lv_goto (tgt := 3975) hx hb dL_law_1822 (by decide) ?_
  refine lv_iinc (v := 6) (lv' := [(5, .int 6), (7, .long r1), (6, .int 1), (4, .ref (am 99)), (3, .ref (am 98)), (2, .ref (am 0)), (1, .ref (ad 0)), (0, .ref b)]) hx hb dL_law_3975 hl (k := 2) rfl (by decide +kernel) (by decide) rfl (fun ls hl => ?_)
  refine lv_goto (tgt := 28) hx hb dL_law_3978 (by decide) ?_
  refine lv_iload hx hb dL_law_28 (lv_at hl 0 rfl) ?_
  refine lv_aload_n hx hb dL_law_30 rfl (lv_at hl 7 rfl) ?_
  refine va_slen hx hb hX0 hbl (Nat.not_le.mpr hbl) G.2.2 dL_law_31 ?_
  refine lv_to (y := 6) (by decide) ?_
  refine lv_bipush (v := 6) hx hb dL_law_32 (by decide) ?_
  refine lv_isub hx hb dL_law_34 ?_
  refine lv_to (y := 0) (by decide +kernel) ?_
  refine lv_icmp_gt (tgt := 3981) hx hb dL_law_35 (by decide) (fun c5 => ?_) (fun c5 => absurd (by decide +kernel) c5)
  refine lv_iconst (v := 1) hx hb dL_law_3981 (by decide) ?_
  refine va_forget G.2.2.2.2 ?_
  refine W.widen (k := 600002) (n := 7302232) (Nat.le_of_ble_eq_true rfl) (Nat.le_of_ble_eq_true rfl) ?_
  exact lw_ret (d0 := s.drawn) (Drawn.sameBut.refl s.drawn lw_cs) hx hb hr hlocks dL_law_3982
