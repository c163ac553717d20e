/-! cases of the law -/
theorem lw_9151 : Cond.methodLink RL 205 yL_after ∈ gw := gw_t5 212 rfl rfl
theorem lw_9152 : Cond.static yL_after ∈ gw := gw_t5 213 rfl rfl
theorem lw_9153 : Cond.codeWith yL_after cL_after 5 (some .int) [(0, 10, 13, 21)] ∈ gw := gw_t5 214 rfl rfl
theorem hdL_after : yL_after.cls ≠ "java/lang/invoke/MethodHandle" ∧ yL_after.cls ≠ "java/lang/invoke/VarHandle" ∧ (parseMethodDescriptor yL_after.desc).map (fun d => d.parameters.length) = some 4 := by decide +kernel
theorem lw_9154 : Cond.methodLink RL 207 yX12_after ∈ gw := gw_t8 129 rfl rfl
theorem lw_9155 : Cond.instanceMethod yX12_after ∈ gw := gw_t8 130 rfl rfl
theorem lw_9156 : Cond.selects RX12 yX12_after yX12_after ∈ gw := gw_t8 131 rfl rfl
theorem lw_9157 : Cond.code yX12_after cX12_after 4 (some .int) ∈ gw := gw_t8 132 rfl rfl
theorem hdX12_after : yX12_after.cls = RX12 ∧ yX12_after.cls ≠ "java/lang/invoke/MethodHandle" ∧ yX12_after.cls ≠ "java/lang/invoke/VarHandle" ∧ (parseMethodDescriptor yX12_after.desc).map (fun d => d.parameters.length) = some 2 := by decide +kernel
theorem lw_9158 : Cond.methodLink RL 208 yL_outside ∈ gw := gw_t5 225 rfl rfl
theorem lw_9159 : Cond.static yL_outside ∈ gw := gw_t5 226 rfl rfl
theorem lw_9160 : Cond.codeWith yL_outside cL_outside 4 (some .int) [(0, 9, 12, 21)] ∈ gw := gw_t5 227 rfl rfl
theorem hdL_outside : yL_outside.cls ≠ "java/lang/invoke/MethodHandle" ∧ yL_outside.cls ≠ "java/lang/invoke/VarHandle" ∧ (parseMethodDescriptor yL_outside.desc).map (fun d => d.parameters.length) = some 3 := by decide +kernel
theorem lw_9161 : Cond.methodLink RL 210 yX12_outside ∈ gw := gw_t8 149 rfl rfl
theorem lw_9162 : Cond.instanceMethod yX12_outside ∈ gw := gw_t8 150 rfl rfl
theorem lw_9163 : Cond.selects RX12 yX12_outside yX12_outside ∈ gw := gw_t8 151 rfl rfl
theorem lw_9164 : Cond.code yX12_outside cX12_outside 2 (some .int) ∈ gw := gw_t8 152 rfl rfl
theorem hdX12_outside : yX12_outside.cls = RX12 ∧ yX12_outside.cls ≠ "java/lang/invoke/MethodHandle" ∧ yX12_outside.cls ≠ "java/lang/invoke/VarHandle" ∧ (parseMethodDescriptor yX12_outside.desc).map (fun d => d.parameters.length) = some 1 := by decide +kernel
theorem lw_9165 : Cond.methodLink RL 211 yL_parted ∈ gw := gw_t5 232 rfl rfl
theorem lw_9166 : Cond.static yL_parted ∈ gw := gw_t5 233 rfl rfl
theorem lw_9167 : Cond.codeWith yL_parted cL_parted 5 (some .int) [(0, 10, 13, 21), (0, 10, 17, 13)] ∈ gw := gw_t5 234 rfl rfl
theorem hdL_parted : yL_parted.cls ≠ "java/lang/invoke/MethodHandle" ∧ yL_parted.cls ≠ "java/lang/invoke/VarHandle" ∧ (parseMethodDescriptor yL_parted.desc).map (fun d => d.parameters.length) = some 4 := by decide +kernel
theorem lw_9168 : Cond.methodLink RL 213 yX12_parted ∈ gw := gw_t8 105 rfl rfl
theorem lw_9169 : Cond.instanceMethod yX12_parted ∈ gw := gw_t8 106 rfl rfl
theorem lw_9170 : Cond.selects RX12 yX12_parted yX12_parted ∈ gw := gw_t8 107 rfl rfl
theorem lw_9171 : Cond.code yX12_parted cX12_parted 6 (some .int) ∈ gw := gw_t8 108 rfl rfl
theorem hdX12_parted : yX12_parted.cls = RX12 ∧ yX12_parted.cls ≠ "java/lang/invoke/MethodHandle" ∧ yX12_parted.cls ≠ "java/lang/invoke/VarHandle" ∧ (parseMethodDescriptor yX12_parted.desc).map (fun d => d.parameters.length) = some 2 := by decide +kernel
theorem lw_9172 : Cond.methodLink RL 214 yL_when ∈ gw := gw_t6 6 rfl rfl
theorem lw_9173 : Cond.static yL_when ∈ gw := gw_t6 7 rfl rfl
theorem lw_9174 : Cond.codeWith yL_when cL_when 5 (some .int) [(0, 10, 13, 21)] ∈ gw := gw_t6 8 rfl rfl
theorem hdL_when : yL_when.cls ≠ "java/lang/invoke/MethodHandle" ∧ yL_when.cls ≠ "java/lang/invoke/VarHandle" ∧ (parseMethodDescriptor yL_when.desc).map (fun d => d.parameters.length) = some 4 := by decide +kernel
theorem lw_9175 : Cond.methodLink RL 216 yX12_when ∈ gw := gw_t8 25 rfl rfl
theorem lw_9176 : Cond.instanceMethod yX12_when ∈ gw := gw_t8 26 rfl rfl
theorem lw_9177 : Cond.selects RX12 yX12_when yX12_when ∈ gw := gw_t8 27 rfl rfl
theorem lw_9178 : Cond.code yX12_when cX12_when 3 (some .int) ∈ gw := gw_t8 28 rfl rfl
theorem hdX12_when : yX12_when.cls = RX12 ∧ yX12_when.cls ≠ "java/lang/invoke/MethodHandle" ∧ yX12_when.cls ≠ "java/lang/invoke/VarHandle" ∧ (parseMethodDescriptor yX12_when.desc).map (fun d => d.parameters.length) = some 2 := by decide +kernel
theorem lw_9179 : Cond.methodLink RL 217 yL_chain ∈ gw := gw_t6 13 rfl rfl
theorem lw_9180 : Cond.static yL_chain ∈ gw := gw_t6 14 rfl rfl
theorem lw_9181 : Cond.codeWith yL_chain cL_chain 6 (some .int) [(0, 12, 15, 21)] ∈ gw := gw_t6 15 rfl rfl
theorem hdL_chain : yL_chain.cls ≠ "java/lang/invoke/MethodHandle" ∧ yL_chain.cls ≠ "java/lang/invoke/VarHandle" ∧ (parseMethodDescriptor yL_chain.desc).map (fun d => d.parameters.length) = some 5 := by decide +kernel
theorem lw_9182 : Cond.methodLink RL 219 yX12_chain ∈ gw := gw_t8 69 rfl rfl
theorem lw_9183 : Cond.instanceMethod yX12_chain ∈ gw := gw_t8 70 rfl rfl
theorem lw_9184 : Cond.selects RX12 yX12_chain yX12_chain ∈ gw := gw_t8 71 rfl rfl
theorem lw_9185 : Cond.code yX12_chain cX12_chain 4 (some .int) ∈ gw := gw_t8 72 rfl rfl
theorem hdX12_chain : yX12_chain.cls = RX12 ∧ yX12_chain.cls ≠ "java/lang/invoke/MethodHandle" ∧ yX12_chain.cls ≠ "java/lang/invoke/VarHandle" ∧ (parseMethodDescriptor yX12_chain.desc).map (fun d => d.parameters.length) = some 3 := by decide +kernel
theorem lw_9186 : Cond.methodLink RL 220 yL_late ∈ gw := gw_t6 28 rfl rfl
theorem lw_9187 : Cond.static yL_late ∈ gw := gw_t6 29 rfl rfl
theorem lw_9188 : Cond.codeWith yL_late cL_late 4 (some .int) [(0, 9, 12, 21)] ∈ gw := gw_t6 30 rfl rfl
theorem hdL_late : yL_late.cls ≠ "java/lang/invoke/MethodHandle" ∧ yL_late.cls ≠ "java/lang/invoke/VarHandle" ∧ (parseMethodDescriptor yL_late.desc).map (fun d => d.parameters.length) = some 3 := by decide +kernel
theorem lw_9189 : Cond.methodLink RL 222 yX12_late ∈ gw := gw_t8 153 rfl rfl
theorem lw_9190 : Cond.instanceMethod yX12_late ∈ gw := gw_t8 154 rfl rfl
theorem lw_9191 : Cond.selects RX12 yX12_late yX12_late ∈ gw := gw_t8 155 rfl rfl
theorem lw_9192 : Cond.code yX12_late cX12_late 2 (some .int) ∈ gw := gw_t8 156 rfl rfl
theorem hdX12_late : yX12_late.cls = RX12 ∧ yX12_late.cls ≠ "java/lang/invoke/MethodHandle" ∧ yX12_late.cls ≠ "java/lang/invoke/VarHandle" ∧ (parseMethodDescriptor yX12_late.desc).map (fun d => d.parameters.length) = some 1 := by decide +kernel
theorem lw_9193 : Cond.methodLink RL 223 yX11_slowest ∈ gw := gw_t2 210 rfl rfl
theorem lw_9194 : Cond.instanceMethod yX11_slowest ∈ gw := gw_t2 211 rfl rfl
theorem lw_9195 : Cond.selects RX11 yX11_slowest yX11_slowest ∈ gw := gw_t2 212 rfl rfl
theorem lw_9196 : Cond.code yX11_slowest cX11_slowest 5 (some .int) ∈ gw := gw_t2 213 rfl rfl
theorem hdX11_slowest : yX11_slowest.cls = RX11 ∧ yX11_slowest.cls ≠ "java/lang/invoke/MethodHandle" ∧ yX11_slowest.cls ≠ "java/lang/invoke/VarHandle" ∧ (parseMethodDescriptor yX11_slowest.desc).map (fun d => d.parameters.length) = some 0 := by decide +kernel
theorem lw_9197 : Cond.methodLink RL 226 yX12_slowest ∈ gw := gw_t8 161 rfl rfl
theorem lw_9198 : Cond.instanceMethod yX12_slowest ∈ gw := gw_t8 162 rfl rfl
theorem lw_9199 : Cond.selects RX12 yX12_slowest yX12_slowest ∈ gw := gw_t8 163 rfl rfl
theorem lw_9200 : Cond.code yX12_slowest cX12_slowest 4 (some .int) ∈ gw := gw_t8 164 rfl rfl
theorem hdX12_slowest : yX12_slowest.cls = RX12 ∧ yX12_slowest.cls ≠ "java/lang/invoke/MethodHandle" ∧ yX12_slowest.cls ≠ "java/lang/invoke/VarHandle" ∧ (parseMethodDescriptor yX12_slowest.desc).map (fun d => d.parameters.length) = some 0 := by decide +kernel
theorem dl_1522 : decode code 1522 = .ok (.aload_n 1, 1) := by decide +kernel
theorem dl_1523 : decode code 1523 = .ok (.aload_n 0, 1) := by decide +kernel
theorem dl_1524 : decode code 1524 = .ok (.iload 4, 2) := by decide +kernel
theorem dl_1526 : decode code 1526 = .ok (.iconst 1, 1) := by decide +kernel
theorem dl_1527 : decode code 1527 = .ok (.iadd, 1) := by decide +kernel
theorem dl_1528 : decode code 1528 = .ok (.iaload, 1) := by decide +kernel
theorem dl_1529 : decode code 1529 = .ok (.aload_n 0, 1) := by decide +kernel
theorem dl_1530 : decode code 1530 = .ok (.iload 4, 2) := by decide +kernel
theorem dl_1532 : decode code 1532 = .ok (.iconst 2, 1) := by decide +kernel
theorem dl_1533 : decode code 1533 = .ok (.iadd, 1) := by decide +kernel
theorem dl_1534 : decode code 1534 = .ok (.iaload, 1) := by decide +kernel
theorem dl_1535 : decode code 1535 = .ok (.aload_n 3, 1) := by decide +kernel
theorem dl_1536 : decode code 1536 = .ok (.invokestatic 205, 3) := by decide +kernel
theorem dl_1539 : decode code 1539 = .ok (.istore 5, 2) := by decide +kernel
theorem dl_1541 : decode code 1541 = .ok (.aload_n 2, 1) := by decide +kernel
theorem dl_1542 : decode code 1542 = .ok (.aload_n 0, 1) := by decide +kernel
theorem dl_1543 : decode code 1543 = .ok (.iload 4, 2) := by decide +kernel
theorem dl_1545 : decode code 1545 = .ok (.iconst 1, 1) := by decide +kernel
theorem dl_1546 : decode code 1546 = .ok (.iadd, 1) := by decide +kernel
theorem dl_1547 : decode code 1547 = .ok (.iaload, 1) := by decide +kernel
theorem dl_1548 : decode code 1548 = .ok (.aload_n 0, 1) := by decide +kernel
theorem dl_1549 : decode code 1549 = .ok (.iload 4, 2) := by decide +kernel
theorem dl_1551 : decode code 1551 = .ok (.iconst 2, 1) := by decide +kernel
theorem dl_1552 : decode code 1552 = .ok (.iadd, 1) := by decide +kernel
theorem dl_1553 : decode code 1553 = .ok (.iaload, 1) := by decide +kernel
theorem dl_1554 : decode code 1554 = .ok (.invokevirtual 207, 3) := by decide +kernel
theorem dl_1557 : decode code 1557 = .ok (.istore 6, 2) := by decide +kernel
theorem dl_1559 : decode code 1559 = .ok (.aload_n 2, 1) := by decide +kernel
theorem dl_1560 : decode code 1560 = .ok (.invokevirtual 140, 3) := by decide +kernel
theorem dl_1563 : decode code 1563 = .ok (.iload 5, 2) := by decide +kernel
theorem dl_1565 : decode code 1565 = .ok (.if_icmp .eq 5, 3) := by decide +kernel
theorem dl_1570 : decode code 1570 = .ok (.iload 5, 2) := by decide +kernel
theorem dl_1572 : decode code 1572 = .ok (.ifCond .ne 15, 3) := by decide +kernel
theorem dl_1575 : decode code 1575 = .ok (.aload_n 3, 1) := by decide +kernel
theorem dl_1576 : decode code 1576 = .ok (.iconst 0, 1) := by decide +kernel
theorem dl_1577 : decode code 1577 = .ok (.laload, 1) := by decide +kernel
theorem dl_1578 : decode code 1578 = .ok (.iload 6, 2) := by decide +kernel
theorem dl_1580 : decode code 1580 = .ok (.i2l, 1) := by decide +kernel
theorem dl_1581 : decode code 1581 = .ok (.lcmp, 1) := by decide +kernel
theorem dl_1582 : decode code 1582 = .ok (.ifCond .eq 5, 3) := by decide +kernel
theorem dl_1587 : decode code 1587 = .ok (.goto 939, 3) := by decide +kernel
theorem dl_1590 : decode code 1590 = .ok (.aload_n 1, 1) := by decide +kernel
theorem dl_1591 : decode code 1591 = .ok (.aload_n 0, 1) := by decide +kernel
theorem dl_1592 : decode code 1592 = .ok (.iload 4, 2) := by decide +kernel
theorem dl_1594 : decode code 1594 = .ok (.iconst 1, 1) := by decide +kernel
theorem dl_1595 : decode code 1595 = .ok (.iadd, 1) := by decide +kernel
theorem dl_1596 : decode code 1596 = .ok (.iaload, 1) := by decide +kernel
theorem dl_1597 : decode code 1597 = .ok (.aload_n 3, 1) := by decide +kernel
theorem dl_1598 : decode code 1598 = .ok (.invokestatic 208, 3) := by decide +kernel
theorem dl_1601 : decode code 1601 = .ok (.istore 5, 2) := by decide +kernel
theorem dl_1603 : decode code 1603 = .ok (.aload_n 2, 1) := by decide +kernel
theorem dl_1604 : decode code 1604 = .ok (.aload_n 0, 1) := by decide +kernel
theorem dl_1605 : decode code 1605 = .ok (.iload 4, 2) := by decide +kernel
theorem dl_1607 : decode code 1607 = .ok (.iconst 1, 1) := by decide +kernel
theorem dl_1608 : decode code 1608 = .ok (.iadd, 1) := by decide +kernel
theorem dl_1609 : decode code 1609 = .ok (.iaload, 1) := by decide +kernel
theorem dl_1610 : decode code 1610 = .ok (.invokevirtual 210, 3) := by decide +kernel
theorem dl_1613 : decode code 1613 = .ok (.istore 6, 2) := by decide +kernel
theorem dl_1615 : decode code 1615 = .ok (.aload_n 2, 1) := by decide +kernel
theorem dl_1616 : decode code 1616 = .ok (.invokevirtual 140, 3) := by decide +kernel
theorem dl_1619 : decode code 1619 = .ok (.iload 5, 2) := by decide +kernel
theorem dl_1621 : decode code 1621 = .ok (.if_icmp .eq 5, 3) := by decide +kernel
theorem dl_1626 : decode code 1626 = .ok (.iload 5, 2) := by decide +kernel
theorem dl_1628 : decode code 1628 = .ok (.ifCond .ne 15, 3) := by decide +kernel
theorem dl_1631 : decode code 1631 = .ok (.aload_n 3, 1) := by decide +kernel
theorem dl_1632 : decode code 1632 = .ok (.iconst 0, 1) := by decide +kernel
theorem dl_1633 : decode code 1633 = .ok (.laload, 1) := by decide +kernel
theorem dl_1634 : decode code 1634 = .ok (.iload 6, 2) := by decide +kernel
theorem dl_1636 : decode code 1636 = .ok (.i2l, 1) := by decide +kernel
theorem dl_1637 : decode code 1637 = .ok (.lcmp, 1) := by decide +kernel
theorem dl_1638 : decode code 1638 = .ok (.ifCond .eq 5, 3) := by decide +kernel
theorem dl_1643 : decode code 1643 = .ok (.goto 883, 3) := by decide +kernel
theorem dl_1646 : decode code 1646 = .ok (.aload_n 1, 1) := by decide +kernel
theorem dl_1647 : decode code 1647 = .ok (.aload_n 0, 1) := by decide +kernel
theorem dl_1648 : decode code 1648 = .ok (.iload 4, 2) := by decide +kernel
theorem dl_1650 : decode code 1650 = .ok (.iconst 1, 1) := by decide +kernel
theorem dl_1651 : decode code 1651 = .ok (.iadd, 1) := by decide +kernel
theorem dl_1652 : decode code 1652 = .ok (.iaload, 1) := by decide +kernel
theorem dl_1653 : decode code 1653 = .ok (.aload_n 0, 1) := by decide +kernel
theorem dl_1654 : decode code 1654 = .ok (.iload 4, 2) := by decide +kernel
theorem dl_1656 : decode code 1656 = .ok (.iconst 2, 1) := by decide +kernel
theorem dl_1657 : decode code 1657 = .ok (.iadd, 1) := by decide +kernel
theorem dl_1658 : decode code 1658 = .ok (.iaload, 1) := by decide +kernel
theorem dl_1659 : decode code 1659 = .ok (.aload_n 3, 1) := by decide +kernel
theorem dl_1660 : decode code 1660 = .ok (.invokestatic 211, 3) := by decide +kernel
theorem dl_1663 : decode code 1663 = .ok (.istore 5, 2) := by decide +kernel
theorem dl_1665 : decode code 1665 = .ok (.aload_n 2, 1) := by decide +kernel
theorem dl_1666 : decode code 1666 = .ok (.aload_n 0, 1) := by decide +kernel
theorem dl_1667 : decode code 1667 = .ok (.iload 4, 2) := by decide +kernel
theorem dl_1669 : decode code 1669 = .ok (.iconst 1, 1) := by decide +kernel
theorem dl_1670 : decode code 1670 = .ok (.iadd, 1) := by decide +kernel
theorem dl_1671 : decode code 1671 = .ok (.iaload, 1) := by decide +kernel
theorem dl_1672 : decode code 1672 = .ok (.aload_n 0, 1) := by decide +kernel
theorem dl_1673 : decode code 1673 = .ok (.iload 4, 2) := by decide +kernel
theorem dl_1675 : decode code 1675 = .ok (.iconst 2, 1) := by decide +kernel
theorem dl_1676 : decode code 1676 = .ok (.iadd, 1) := by decide +kernel
theorem dl_1677 : decode code 1677 = .ok (.iaload, 1) := by decide +kernel
theorem dl_1678 : decode code 1678 = .ok (.invokevirtual 213, 3) := by decide +kernel
theorem dl_1681 : decode code 1681 = .ok (.istore 6, 2) := by decide +kernel
theorem dl_1683 : decode code 1683 = .ok (.aload_n 2, 1) := by decide +kernel
theorem dl_1684 : decode code 1684 = .ok (.invokevirtual 140, 3) := by decide +kernel
theorem dl_1687 : decode code 1687 = .ok (.iload 5, 2) := by decide +kernel
theorem dl_1689 : decode code 1689 = .ok (.if_icmp .eq 5, 3) := by decide +kernel
theorem dl_1694 : decode code 1694 = .ok (.iload 5, 2) := by decide +kernel
theorem dl_1696 : decode code 1696 = .ok (.ifCond .ne 15, 3) := by decide +kernel
theorem dl_1699 : decode code 1699 = .ok (.aload_n 3, 1) := by decide +kernel
theorem dl_1700 : decode code 1700 = .ok (.iconst 0, 1) := by decide +kernel
theorem dl_1701 : decode code 1701 = .ok (.laload, 1) := by decide +kernel
theorem dl_1702 : decode code 1702 = .ok (.iload 6, 2) := by decide +kernel
theorem dl_1704 : decode code 1704 = .ok (.i2l, 1) := by decide +kernel
theorem dl_1705 : decode code 1705 = .ok (.lcmp, 1) := by decide +kernel
theorem dl_1706 : decode code 1706 = .ok (.ifCond .eq 5, 3) := by decide +kernel
theorem dl_1711 : decode code 1711 = .ok (.goto 815, 3) := by decide +kernel
theorem dl_1714 : decode code 1714 = .ok (.aload_n 1, 1) := by decide +kernel
theorem dl_1715 : decode code 1715 = .ok (.aload_n 0, 1) := by decide +kernel
theorem dl_1716 : decode code 1716 = .ok (.iload 4, 2) := by decide +kernel
theorem dl_1718 : decode code 1718 = .ok (.iconst 1, 1) := by decide +kernel
theorem dl_1719 : decode code 1719 = .ok (.iadd, 1) := by decide +kernel
theorem dl_1720 : decode code 1720 = .ok (.iaload, 1) := by decide +kernel
theorem dl_1721 : decode code 1721 = .ok (.aload_n 0, 1) := by decide +kernel
theorem dl_1722 : decode code 1722 = .ok (.iload 4, 2) := by decide +kernel
theorem dl_1724 : decode code 1724 = .ok (.iconst 2, 1) := by decide +kernel
theorem dl_1725 : decode code 1725 = .ok (.iadd, 1) := by decide +kernel
theorem dl_1726 : decode code 1726 = .ok (.iaload, 1) := by decide +kernel
theorem dl_1727 : decode code 1727 = .ok (.aload_n 3, 1) := by decide +kernel
theorem dl_1728 : decode code 1728 = .ok (.invokestatic 214, 3) := by decide +kernel
theorem dl_1731 : decode code 1731 = .ok (.istore 5, 2) := by decide +kernel
theorem dl_1733 : decode code 1733 = .ok (.aload_n 2, 1) := by decide +kernel
theorem dl_1734 : decode code 1734 = .ok (.aload_n 0, 1) := by decide +kernel
theorem dl_1735 : decode code 1735 = .ok (.iload 4, 2) := by decide +kernel
theorem dl_1737 : decode code 1737 = .ok (.iconst 1, 1) := by decide +kernel
theorem dl_1738 : decode code 1738 = .ok (.iadd, 1) := by decide +kernel
theorem dl_1739 : decode code 1739 = .ok (.iaload, 1) := by decide +kernel
theorem dl_1740 : decode code 1740 = .ok (.aload_n 0, 1) := by decide +kernel
theorem dl_1741 : decode code 1741 = .ok (.iload 4, 2) := by decide +kernel
theorem dl_1743 : decode code 1743 = .ok (.iconst 2, 1) := by decide +kernel
theorem dl_1744 : decode code 1744 = .ok (.iadd, 1) := by decide +kernel
theorem dl_1745 : decode code 1745 = .ok (.iaload, 1) := by decide +kernel
theorem dl_1746 : decode code 1746 = .ok (.invokevirtual 216, 3) := by decide +kernel
theorem dl_1749 : decode code 1749 = .ok (.istore 6, 2) := by decide +kernel
theorem dl_1751 : decode code 1751 = .ok (.aload_n 2, 1) := by decide +kernel
theorem dl_1752 : decode code 1752 = .ok (.invokevirtual 140, 3) := by decide +kernel
theorem dl_1755 : decode code 1755 = .ok (.iload 5, 2) := by decide +kernel
theorem dl_1757 : decode code 1757 = .ok (.if_icmp .eq 5, 3) := by decide +kernel
theorem dl_1762 : decode code 1762 = .ok (.iload 5, 2) := by decide +kernel
theorem dl_1764 : decode code 1764 = .ok (.ifCond .ne 15, 3) := by decide +kernel
theorem dl_1767 : decode code 1767 = .ok (.aload_n 3, 1) := by decide +kernel
theorem dl_1768 : decode code 1768 = .ok (.iconst 0, 1) := by decide +kernel
theorem dl_1769 : decode code 1769 = .ok (.laload, 1) := by decide +kernel
theorem dl_1770 : decode code 1770 = .ok (.iload 6, 2) := by decide +kernel
theorem dl_1772 : decode code 1772 = .ok (.i2l, 1) := by decide +kernel
theorem dl_1773 : decode code 1773 = .ok (.lcmp, 1) := by decide +kernel
theorem dl_1774 : decode code 1774 = .ok (.ifCond .eq 5, 3) := by decide +kernel
theorem dl_1779 : decode code 1779 = .ok (.goto 747, 3) := by decide +kernel
theorem dl_1782 : decode code 1782 = .ok (.aload_n 1, 1) := by decide +kernel
theorem dl_1783 : decode code 1783 = .ok (.aload_n 0, 1) := by decide +kernel
theorem dl_1784 : decode code 1784 = .ok (.iload 4, 2) := by decide +kernel
theorem dl_1786 : decode code 1786 = .ok (.iconst 1, 1) := by decide +kernel
theorem dl_1787 : decode code 1787 = .ok (.iadd, 1) := by decide +kernel
theorem dl_1788 : decode code 1788 = .ok (.iaload, 1) := by decide +kernel
theorem dl_1789 : decode code 1789 = .ok (.aload_n 0, 1) := by decide +kernel
theorem dl_1790 : decode code 1790 = .ok (.iload 4, 2) := by decide +kernel
theorem dl_1792 : decode code 1792 = .ok (.iconst 2, 1) := by decide +kernel
theorem dl_1793 : decode code 1793 = .ok (.iadd, 1) := by decide +kernel
theorem dl_1794 : decode code 1794 = .ok (.iaload, 1) := by decide +kernel
theorem dl_1795 : decode code 1795 = .ok (.aload_n 0, 1) := by decide +kernel
theorem dl_1796 : decode code 1796 = .ok (.iload 4, 2) := by decide +kernel
theorem dl_1798 : decode code 1798 = .ok (.iconst 3, 1) := by decide +kernel
theorem dl_1799 : decode code 1799 = .ok (.iadd, 1) := by decide +kernel
theorem dl_1800 : decode code 1800 = .ok (.iaload, 1) := by decide +kernel
theorem dl_1801 : decode code 1801 = .ok (.aload_n 3, 1) := by decide +kernel
theorem dl_1802 : decode code 1802 = .ok (.invokestatic 217, 3) := by decide +kernel
theorem dl_1805 : decode code 1805 = .ok (.istore 5, 2) := by decide +kernel
theorem dl_1807 : decode code 1807 = .ok (.aload_n 2, 1) := by decide +kernel
theorem dl_1808 : decode code 1808 = .ok (.aload_n 0, 1) := by decide +kernel
theorem dl_1809 : decode code 1809 = .ok (.iload 4, 2) := by decide +kernel
theorem dl_1811 : decode code 1811 = .ok (.iconst 1, 1) := by decide +kernel
theorem dl_1812 : decode code 1812 = .ok (.iadd, 1) := by decide +kernel
theorem dl_1813 : decode code 1813 = .ok (.iaload, 1) := by decide +kernel
theorem dl_1814 : decode code 1814 = .ok (.aload_n 0, 1) := by decide +kernel
theorem dl_1815 : decode code 1815 = .ok (.iload 4, 2) := by decide +kernel
theorem dl_1817 : decode code 1817 = .ok (.iconst 2, 1) := by decide +kernel
theorem dl_1818 : decode code 1818 = .ok (.iadd, 1) := by decide +kernel
theorem dl_1819 : decode code 1819 = .ok (.iaload, 1) := by decide +kernel
theorem dl_1820 : decode code 1820 = .ok (.aload_n 0, 1) := by decide +kernel
theorem dl_1821 : decode code 1821 = .ok (.iload 4, 2) := by decide +kernel
theorem dl_1823 : decode code 1823 = .ok (.iconst 3, 1) := by decide +kernel
theorem dl_1824 : decode code 1824 = .ok (.iadd, 1) := by decide +kernel
theorem dl_1825 : decode code 1825 = .ok (.iaload, 1) := by decide +kernel
theorem dl_1826 : decode code 1826 = .ok (.invokevirtual 219, 3) := by decide +kernel
theorem dl_1829 : decode code 1829 = .ok (.istore 6, 2) := by decide +kernel
theorem dl_1831 : decode code 1831 = .ok (.aload_n 2, 1) := by decide +kernel
theorem dl_1832 : decode code 1832 = .ok (.invokevirtual 140, 3) := by decide +kernel
theorem dl_1835 : decode code 1835 = .ok (.iload 5, 2) := by decide +kernel
theorem dl_1837 : decode code 1837 = .ok (.if_icmp .eq 5, 3) := by decide +kernel
theorem dl_1842 : decode code 1842 = .ok (.iload 5, 2) := by decide +kernel
theorem dl_1844 : decode code 1844 = .ok (.ifCond .ne 15, 3) := by decide +kernel
theorem dl_1847 : decode code 1847 = .ok (.aload_n 3, 1) := by decide +kernel
theorem dl_1848 : decode code 1848 = .ok (.iconst 0, 1) := by decide +kernel
theorem dl_1849 : decode code 1849 = .ok (.laload, 1) := by decide +kernel
theorem dl_1850 : decode code 1850 = .ok (.iload 6, 2) := by decide +kernel
theorem dl_1852 : decode code 1852 = .ok (.i2l, 1) := by decide +kernel
theorem dl_1853 : decode code 1853 = .ok (.lcmp, 1) := by decide +kernel
theorem dl_1854 : decode code 1854 = .ok (.ifCond .eq 5, 3) := by decide +kernel
theorem dl_1859 : decode code 1859 = .ok (.goto 667, 3) := by decide +kernel
theorem dl_1862 : decode code 1862 = .ok (.aload_n 1, 1) := by decide +kernel
theorem dl_1863 : decode code 1863 = .ok (.aload_n 0, 1) := by decide +kernel
theorem dl_1864 : decode code 1864 = .ok (.iload 4, 2) := by decide +kernel
theorem dl_1866 : decode code 1866 = .ok (.iconst 1, 1) := by decide +kernel
theorem dl_1867 : decode code 1867 = .ok (.iadd, 1) := by decide +kernel
theorem dl_1868 : decode code 1868 = .ok (.iaload, 1) := by decide +kernel
theorem dl_1869 : decode code 1869 = .ok (.aload_n 3, 1) := by decide +kernel
theorem dl_1870 : decode code 1870 = .ok (.invokestatic 220, 3) := by decide +kernel
theorem dl_1873 : decode code 1873 = .ok (.istore 5, 2) := by decide +kernel
theorem dl_1875 : decode code 1875 = .ok (.aload_n 2, 1) := by decide +kernel
theorem dl_1876 : decode code 1876 = .ok (.aload_n 0, 1) := by decide +kernel
theorem dl_1877 : decode code 1877 = .ok (.iload 4, 2) := by decide +kernel
theorem dl_1879 : decode code 1879 = .ok (.iconst 1, 1) := by decide +kernel
theorem dl_1880 : decode code 1880 = .ok (.iadd, 1) := by decide +kernel
theorem dl_1881 : decode code 1881 = .ok (.iaload, 1) := by decide +kernel
theorem dl_1882 : decode code 1882 = .ok (.invokevirtual 222, 3) := by decide +kernel
theorem dl_1885 : decode code 1885 = .ok (.istore 6, 2) := by decide +kernel
theorem dl_1887 : decode code 1887 = .ok (.aload_n 2, 1) := by decide +kernel
theorem dl_1888 : decode code 1888 = .ok (.invokevirtual 140, 3) := by decide +kernel
theorem dl_1891 : decode code 1891 = .ok (.iload 5, 2) := by decide +kernel
theorem dl_1893 : decode code 1893 = .ok (.if_icmp .eq 5, 3) := by decide +kernel
theorem dl_1898 : decode code 1898 = .ok (.iload 5, 2) := by decide +kernel
theorem dl_1900 : decode code 1900 = .ok (.ifCond .ne 15, 3) := by decide +kernel
theorem dl_1903 : decode code 1903 = .ok (.aload_n 3, 1) := by decide +kernel
theorem dl_1904 : decode code 1904 = .ok (.iconst 0, 1) := by decide +kernel
theorem dl_1905 : decode code 1905 = .ok (.laload, 1) := by decide +kernel
theorem dl_1906 : decode code 1906 = .ok (.iload 6, 2) := by decide +kernel
theorem dl_1908 : decode code 1908 = .ok (.i2l, 1) := by decide +kernel
theorem dl_1909 : decode code 1909 = .ok (.lcmp, 1) := by decide +kernel
theorem dl_1910 : decode code 1910 = .ok (.ifCond .eq 5, 3) := by decide +kernel
theorem dl_1915 : decode code 1915 = .ok (.goto 611, 3) := by decide +kernel
theorem dl_1918 : decode code 1918 = .ok (.aload_n 1, 1) := by decide +kernel
theorem dl_1919 : decode code 1919 = .ok (.invokevirtual 223, 3) := by decide +kernel
theorem dl_1922 : decode code 1922 = .ok (.aload_n 2, 1) := by decide +kernel
theorem dl_1923 : decode code 1923 = .ok (.invokevirtual 226, 3) := by decide +kernel
theorem dl_1926 : decode code 1926 = .ok (.if_icmp .eq 600, 3) := by decide +kernel
section LX
variable {p : Program} {l : Launch} {e : Env} {s : State} {m : MethodId} {below : List Frame} {meth : Method} {c0 : Code} {D : va_G} {cI cB cL : ClassId} {ka kv : Nat → Nat} {fv : Value} {b L x o i c : Nat} {xs : Nat → Int32} {am : Nat → Nat}
theorem lc_after (LC : lawC l D cI cB cL ka kv fv p s m c0 meth b L xs) (hi : i + 5 < L) (hc : c < 512) (KE : lawAt l D cI cB cL p e s m below meth c0 b x o am i 2526 (c + 1)) : lawAt l D cI cB cL p e s m below meth c0 b x o am i 1522 c := by
  intro lay t μ f H locs ls hxx hI S hl
  subst hxx
  have LC' := LC
  obtain ⟨C, Kx, Np, hX, hbl, hst, hL⟩ := LC
  have hx := C.1
  have hb := C.2.1
  have hbA : ¬ (fun q => s.heap.size ≤ q) b := Nat.not_le.mpr hbl
  obtain ⟨r, μ', hm, mc, ms, g, g1, g2, g3, hop⟩ := op_after (l := l) (D := D) (cI := cI) (cB := cB) (cL := cL) (ka := ka) (kv := kv) (fv := fv) hst hI (by omega) (xs (i + 1)) (xs (i + 2))
  have hM := hop lay
  refine lv_aload_n hx hb dl_1522 rfl (lv_at hl 1 rfl) ?_
  refine g_arg (j := 1) hx hb hX hbl hbA S.2.2 hL (by omega) (lv_at hl 0 rfl) (lv_at hl 4 rfl) rfl dl_1523 dl_1524 dl_1526 dl_1527 dl_1528 ?_
  refine g_arg (j := 2) hx hb hX hbl hbA S.2.2 hL (by omega) (lv_at hl 0 rfl) (lv_at hl 4 rfl) rfl dl_1529 dl_1530 dl_1532 dl_1533 dl_1534 ?_
  refine lv_aload_n hx hb dl_1535 rfl (lv_at hl 3 rfl) ?_
  refine h_callSW (As := [.ref (lay.1 36), .int (xs (i + 1)), .int (xs (i + 2)), .ref o]) (na := 4) C Kx Np S (wl_after l D cI cB cL ka kv fv (lay.1 36) o f (xs (i + 1)) (xs (i + 2)) (lpX_obj cI cB lay t) hM (fun E X' h => by have h := h.1; simpa using h)) lw_9151 lw_9152 lth_6 lw_9153 hdL_after ⟨Nat.le_of_ble_eq_true rfl, Nat.le_of_ble_eq_true rfl⟩ rfl hl.1 ⟨(by show _ ≤ 601024; omega), (by show _ ≤ 7293034; omega)⟩ (Nat.le_of_ble_eq_true rfl) dl_1536 rfl (fun k X' H locs hRW S => ?_)
  obtain ⟨lay', t', g', rfl, h36, ht, hI', hth, hg⟩ := rW_key hRW kcA
  refine W.widen (k := 1000 + 4 * (c + 1) + tot t') (n := 150000 + 24 * (c + 1) + 2 * tot t') (by omega) (by omega) ?_
  have S := g_comm S
  refine lv_istore (lv' := [(5, .int k), (0, .ref b), (1, .ref (lay.1 36)), (2, .ref (am 0)), (3, .ref o), (4, .int (nI i))]) hx hb dl_1539 hl (by decide) rfl (fun ls hl => ?_)
  refine lv_aload_n hx hb dl_1541 rfl (lv_at hl 3 rfl) ?_
  refine g_arg (j := 1) hx hb hX hbl hbA S.2.2 hL (by omega) (lv_at hl 1 rfl) (lv_at hl 5 rfl) rfl dl_1542 dl_1543 dl_1545 dl_1546 dl_1547 ?_
  refine g_arg (j := 2) hx hb hX hbl hbA S.2.2 hL (by omega) (lv_at hl 1 rfl) (lv_at hl 5 rfl) rfl dl_1548 dl_1549 dl_1551 dl_1552 dl_1553 ?_
  refine h_callVi (As := [.int (xs (i + 1)), .int (xs (i + 2))]) (na := 2) C Kx S (wM_obj cI cB am μ) rfl ((ct_X12_after l D cI cB cL am (xs (i + 1)) (xs (i + 2)) μ hm).toH) lw_9154 lw_9155 lw_9156 mw_5 lw_9157 hdX12_after ⟨Nat.le_of_ble_eq_true rfl, Nat.le_of_ble_eq_true rfl⟩ rfl hl.1 ⟨(by show _ ≤ 601024; omega), (by show _ ≤ 7293034; omega)⟩ (Nat.le_of_ble_eq_true rfl) dl_1554 rfl (fun r2 X' H locs hRI S => ?_)
  obtain ⟨rfl, rfl⟩ := hRI
  exact law_tail LC' hc KE h36 hI' hth hg hl S dl_1557 dl_1559 dl_1560 dl_1563 dl_1565 dl_1570 dl_1572 dl_1575 dl_1576 dl_1577 dl_1578 dl_1580 dl_1581 dl_1582 dl_1587 (by decide)
theorem lc_outside (LC : lawC l D cI cB cL ka kv fv p s m c0 meth b L xs) (hi : i + 5 < L) (hc : c < 512) (KE : lawAt l D cI cB cL p e s m below meth c0 b x o am i 2526 (c + 1)) : lawAt l D cI cB cL p e s m below meth c0 b x o am i 1590 c := by
  intro lay t μ f H locs ls hxx hI S hl
  subst hxx
  have LC' := LC
  obtain ⟨C, Kx, Np, hX, hbl, hst, hL⟩ := LC
  have hx := C.1
  have hb := C.2.1
  have hbA : ¬ (fun q => s.heap.size ≤ q) b := Nat.not_le.mpr hbl
  obtain ⟨r, μ', hm, mc, ms, g, g1, g2, g3, hop⟩ := op_outside (l := l) (D := D) (cI := cI) (cB := cB) (cL := cL) (ka := ka) (kv := kv) (fv := fv) hst hI (xs (i + 1))
  have hM := hop lay
  refine lv_aload_n hx hb dl_1590 rfl (lv_at hl 1 rfl) ?_
  refine g_arg (j := 1) hx hb hX hbl hbA S.2.2 hL (by omega) (lv_at hl 0 rfl) (lv_at hl 4 rfl) rfl dl_1591 dl_1592 dl_1594 dl_1595 dl_1596 ?_
  refine lv_aload_n hx hb dl_1597 rfl (lv_at hl 3 rfl) ?_
  refine h_callSW (As := [.ref (lay.1 36), .int (xs (i + 1)), .ref o]) (na := 3) C Kx Np S (wl_outside l D cI cB cL ka kv fv (lay.1 36) o f (xs (i + 1)) (lpX_obj cI cB lay t) hM (fun E X' h => by have h := h.1; simpa using h)) lw_9158 lw_9159 lth_6 lw_9160 hdL_outside ⟨Nat.le_of_ble_eq_true rfl, Nat.le_of_ble_eq_true rfl⟩ rfl hl.1 ⟨(by show _ ≤ 601024; omega), (by show _ ≤ 7293034; omega)⟩ (Nat.le_of_ble_eq_true rfl) dl_1598 rfl (fun k X' H locs hRW S => ?_)
  obtain ⟨lay', t', g', rfl, h36, ht, hI', hth, hg⟩ := rW_key hRW kcA
  refine W.widen (k := 1000 + 4 * (c + 1) + tot t') (n := 150000 + 24 * (c + 1) + 2 * tot t') (by omega) (by omega) ?_
  have S := g_comm S
  refine lv_istore (lv' := [(5, .int k), (0, .ref b), (1, .ref (lay.1 36)), (2, .ref (am 0)), (3, .ref o), (4, .int (nI i))]) hx hb dl_1601 hl (by decide) rfl (fun ls hl => ?_)
  refine lv_aload_n hx hb dl_1603 rfl (lv_at hl 3 rfl) ?_
  refine g_arg (j := 1) hx hb hX hbl hbA S.2.2 hL (by omega) (lv_at hl 1 rfl) (lv_at hl 5 rfl) rfl dl_1604 dl_1605 dl_1607 dl_1608 dl_1609 ?_
  refine h_callVi (As := [.int (xs (i + 1))]) (na := 1) C Kx S (wM_obj cI cB am μ) rfl ((ct_X12_outside l D cI cB cL am (xs (i + 1)) μ hm).toH) lw_9161 lw_9162 lw_9163 mw_5 lw_9164 hdX12_outside ⟨Nat.le_of_ble_eq_true rfl, Nat.le_of_ble_eq_true rfl⟩ rfl hl.1 ⟨(by show _ ≤ 601024; omega), (by show _ ≤ 7293034; omega)⟩ (Nat.le_of_ble_eq_true rfl) dl_1610 rfl (fun r2 X' H locs hRI S => ?_)
  obtain ⟨rfl, rfl⟩ := hRI
  exact law_tail LC' hc KE h36 hI' hth hg hl S dl_1613 dl_1615 dl_1616 dl_1619 dl_1621 dl_1626 dl_1628 dl_1631 dl_1632 dl_1633 dl_1634 dl_1636 dl_1637 dl_1638 dl_1643 (by decide)
theorem lc_parted (LC : lawC l D cI cB cL ka kv fv p s m c0 meth b L xs) (hi : i + 5 < L) (hc : c < 512) (KE : lawAt l D cI cB cL p e s m below meth c0 b x o am i 2526 (c + 1)) : lawAt l D cI cB cL p e s m below meth c0 b x o am i 1646 c := by
  intro lay t μ f H locs ls hxx hI S hl
  subst hxx
  have LC' := LC
  obtain ⟨C, Kx, Np, hX, hbl, hst, hL⟩ := LC
  have hx := C.1
  have hb := C.2.1
  have hbA : ¬ (fun q => s.heap.size ≤ q) b := Nat.not_le.mpr hbl
  obtain ⟨r, μ', hm, mc, ms, g, g1, g2, g3, hop⟩ := op_parted (l := l) (D := D) (cI := cI) (cB := cB) (cL := cL) (ka := ka) (kv := kv) (fv := fv) hst hI (xs (i + 1)) (xs (i + 2))
  have hM := hop lay
  refine lv_aload_n hx hb dl_1646 rfl (lv_at hl 1 rfl) ?_
  refine g_arg (j := 1) hx hb hX hbl hbA S.2.2 hL (by omega) (lv_at hl 0 rfl) (lv_at hl 4 rfl) rfl dl_1647 dl_1648 dl_1650 dl_1651 dl_1652 ?_
  refine g_arg (j := 2) hx hb hX hbl hbA S.2.2 hL (by omega) (lv_at hl 0 rfl) (lv_at hl 4 rfl) rfl dl_1653 dl_1654 dl_1656 dl_1657 dl_1658 ?_
  refine lv_aload_n hx hb dl_1659 rfl (lv_at hl 3 rfl) ?_
  refine h_callSW (As := [.ref (lay.1 36), .int (xs (i + 1)), .int (xs (i + 2)), .ref o]) (na := 4) C Kx Np S (wl_parted l D cI cB cL ka kv fv (lay.1 36) o f (xs (i + 1)) (xs (i + 2)) (lpX_obj cI cB lay t) hM (fun E X' h => by have h := h.1; simpa using h)) lw_9165 lw_9166 lth_6 lw_9167 hdL_parted ⟨Nat.le_of_ble_eq_true rfl, Nat.le_of_ble_eq_true rfl⟩ rfl hl.1 ⟨(by show _ ≤ 601024; omega), (by show _ ≤ 7293034; omega)⟩ (Nat.le_of_ble_eq_true rfl) dl_1660 rfl (fun k X' H locs hRW S => ?_)
  obtain ⟨lay', t', g', rfl, h36, ht, hI', hth, hg⟩ := rW_key hRW kcD
  refine W.widen (k := 1000 + 4 * (c + 1) + tot t') (n := 150000 + 24 * (c + 1) + 2 * tot t') (by omega) (by omega) ?_
  have S := g_comm S
  refine lv_istore (lv' := [(5, .int k), (0, .ref b), (1, .ref (lay.1 36)), (2, .ref (am 0)), (3, .ref o), (4, .int (nI i))]) hx hb dl_1663 hl (by decide) rfl (fun ls hl => ?_)
  refine lv_aload_n hx hb dl_1665 rfl (lv_at hl 3 rfl) ?_
  refine g_arg (j := 1) hx hb hX hbl hbA S.2.2 hL (by omega) (lv_at hl 1 rfl) (lv_at hl 5 rfl) rfl dl_1666 dl_1667 dl_1669 dl_1670 dl_1671 ?_
  refine g_arg (j := 2) hx hb hX hbl hbA S.2.2 hL (by omega) (lv_at hl 1 rfl) (lv_at hl 5 rfl) rfl dl_1672 dl_1673 dl_1675 dl_1676 dl_1677 ?_
  refine h_callVi (As := [.int (xs (i + 1)), .int (xs (i + 2))]) (na := 2) C Kx S (wM_obj cI cB am μ) rfl ((ct_X12_parted l D cI cB cL am (xs (i + 1)) (xs (i + 2)) μ hm).toH) lw_9168 lw_9169 lw_9170 mw_5 lw_9171 hdX12_parted ⟨Nat.le_of_ble_eq_true rfl, Nat.le_of_ble_eq_true rfl⟩ rfl hl.1 ⟨(by show _ ≤ 601024; omega), (by show _ ≤ 7293034; omega)⟩ (Nat.le_of_ble_eq_true rfl) dl_1678 rfl (fun r2 X' H locs hRI S => ?_)
  obtain ⟨rfl, rfl⟩ := hRI
  exact law_tail LC' hc KE h36 hI' hth hg hl S dl_1681 dl_1683 dl_1684 dl_1687 dl_1689 dl_1694 dl_1696 dl_1699 dl_1700 dl_1701 dl_1702 dl_1704 dl_1705 dl_1706 dl_1711 (by decide)
theorem lc_when (LC : lawC l D cI cB cL ka kv fv p s m c0 meth b L xs) (hi : i + 5 < L) (hc : c < 512) (KE : lawAt l D cI cB cL p e s m below meth c0 b x o am i 2526 (c + 1)) : lawAt l D cI cB cL p e s m below meth c0 b x o am i 1714 c := by
  intro lay t μ f H locs ls hxx hI S hl
  subst hxx
  have LC' := LC
  obtain ⟨C, Kx, Np, hX, hbl, hst, hL⟩ := LC
  have hx := C.1
  have hb := C.2.1
  have hbA : ¬ (fun q => s.heap.size ≤ q) b := Nat.not_le.mpr hbl
  obtain ⟨r, μ', hm, mc, ms, g, g1, g2, g3, hop⟩ := op_when (l := l) (D := D) (cI := cI) (cB := cB) (cL := cL) (ka := ka) (kv := kv) (fv := fv) hst hI (xs (i + 1)) (xs (i + 2))
  have hM := hop lay
  refine lv_aload_n hx hb dl_1714 rfl (lv_at hl 1 rfl) ?_
  refine g_arg (j := 1) hx hb hX hbl hbA S.2.2 hL (by omega) (lv_at hl 0 rfl) (lv_at hl 4 rfl) rfl dl_1715 dl_1716 dl_1718 dl_1719 dl_1720 ?_
  refine g_arg (j := 2) hx hb hX hbl hbA S.2.2 hL (by omega) (lv_at hl 0 rfl) (lv_at hl 4 rfl) rfl dl_1721 dl_1722 dl_1724 dl_1725 dl_1726 ?_
  refine lv_aload_n hx hb dl_1727 rfl (lv_at hl 3 rfl) ?_
  refine h_callSW (As := [.ref (lay.1 36), .int (xs (i + 1)), .int (xs (i + 2)), .ref o]) (na := 4) C Kx Np S (wl_when l D cI cB cL ka kv fv (lay.1 36) o f (xs (i + 1)) (xs (i + 2)) (lpX_obj cI cB lay t) hM (fun E X' h => by have h := h.1; simpa using h)) lw_9172 lw_9173 lth_6 lw_9174 hdL_when ⟨Nat.le_of_ble_eq_true rfl, Nat.le_of_ble_eq_true rfl⟩ rfl hl.1 ⟨(by show _ ≤ 601024; omega), (by show _ ≤ 7293034; omega)⟩ (Nat.le_of_ble_eq_true rfl) dl_1728 rfl (fun k X' H locs hRW S => ?_)
  obtain ⟨lay', t', g', rfl, h36, ht, hI', hth, hg⟩ := rW_key hRW kcA
  refine W.widen (k := 1000 + 4 * (c + 1) + tot t') (n := 150000 + 24 * (c + 1) + 2 * tot t') (by omega) (by omega) ?_
  have S := g_comm S
  refine lv_istore (lv' := [(5, .int k), (0, .ref b), (1, .ref (lay.1 36)), (2, .ref (am 0)), (3, .ref o), (4, .int (nI i))]) hx hb dl_1731 hl (by decide) rfl (fun ls hl => ?_)
  refine lv_aload_n hx hb dl_1733 rfl (lv_at hl 3 rfl) ?_
  refine g_arg (j := 1) hx hb hX hbl hbA S.2.2 hL (by omega) (lv_at hl 1 rfl) (lv_at hl 5 rfl) rfl dl_1734 dl_1735 dl_1737 dl_1738 dl_1739 ?_
  refine g_arg (j := 2) hx hb hX hbl hbA S.2.2 hL (by omega) (lv_at hl 1 rfl) (lv_at hl 5 rfl) rfl dl_1740 dl_1741 dl_1743 dl_1744 dl_1745 ?_
  refine h_callVi (As := [.int (xs (i + 1)), .int (xs (i + 2))]) (na := 2) C Kx S (wM_obj cI cB am μ) rfl ((ct_X12_when l D cI cB cL am (xs (i + 1)) (xs (i + 2)) μ hm).toH) lw_9175 lw_9176 lw_9177 mw_5 lw_9178 hdX12_when ⟨Nat.le_of_ble_eq_true rfl, Nat.le_of_ble_eq_true rfl⟩ rfl hl.1 ⟨(by show _ ≤ 601024; omega), (by show _ ≤ 7293034; omega)⟩ (Nat.le_of_ble_eq_true rfl) dl_1746 rfl (fun r2 X' H locs hRI S => ?_)
  obtain ⟨rfl, rfl⟩ := hRI
  exact law_tail LC' hc KE h36 hI' hth hg hl S dl_1749 dl_1751 dl_1752 dl_1755 dl_1757 dl_1762 dl_1764 dl_1767 dl_1768 dl_1769 dl_1770 dl_1772 dl_1773 dl_1774 dl_1779 (by decide)
theorem lc_chain (LC : lawC l D cI cB cL ka kv fv p s m c0 meth b L xs) (hi : i + 5 < L) (hc : c < 512) (KE : lawAt l D cI cB cL p e s m below meth c0 b x o am i 2526 (c + 1)) : lawAt l D cI cB cL p e s m below meth c0 b x o am i 1782 c := by
  intro lay t μ f H locs ls hxx hI S hl
  subst hxx
  have LC' := LC
  obtain ⟨C, Kx, Np, hX, hbl, hst, hL⟩ := LC
  have hx := C.1
  have hb := C.2.1
  have hbA : ¬ (fun q => s.heap.size ≤ q) b := Nat.not_le.mpr hbl
  obtain ⟨r, μ', hm, mc, ms, g, g1, g2, g3, hop⟩ := op_chain (l := l) (D := D) (cI := cI) (cB := cB) (cL := cL) (ka := ka) (kv := kv) (fv := fv) hst hI (xs (i + 1)) (xs (i + 2)) (xs (i + 3))
  have hM := hop lay
  refine lv_aload_n hx hb dl_1782 rfl (lv_at hl 1 rfl) ?_
  refine g_arg (j := 1) hx hb hX hbl hbA S.2.2 hL (by omega) (lv_at hl 0 rfl) (lv_at hl 4 rfl) rfl dl_1783 dl_1784 dl_1786 dl_1787 dl_1788 ?_
  refine g_arg (j := 2) hx hb hX hbl hbA S.2.2 hL (by omega) (lv_at hl 0 rfl) (lv_at hl 4 rfl) rfl dl_1789 dl_1790 dl_1792 dl_1793 dl_1794 ?_
  refine g_arg (j := 3) hx hb hX hbl hbA S.2.2 hL (by omega) (lv_at hl 0 rfl) (lv_at hl 4 rfl) rfl dl_1795 dl_1796 dl_1798 dl_1799 dl_1800 ?_
  refine lv_aload_n hx hb dl_1801 rfl (lv_at hl 3 rfl) ?_
  refine h_callSW (As := [.ref (lay.1 36), .int (xs (i + 1)), .int (xs (i + 2)), .int (xs (i + 3)), .ref o]) (na := 5) C Kx Np S (wl_chain l D cI cB cL ka kv fv (lay.1 36) o f (xs (i + 1)) (xs (i + 2)) (xs (i + 3)) (lpX_obj cI cB lay t) hM (fun E X' h => by have h := h.1; simpa using h)) lw_9179 lw_9180 lth_6 lw_9181 hdL_chain ⟨Nat.le_of_ble_eq_true rfl, Nat.le_of_ble_eq_true rfl⟩ rfl hl.1 ⟨(by show _ ≤ 601024; omega), (by show _ ≤ 7293034; omega)⟩ (Nat.le_of_ble_eq_true rfl) dl_1802 rfl (fun k X' H locs hRW S => ?_)
  obtain ⟨lay', t', g', rfl, h36, ht, hI', hth, hg⟩ := rW_key hRW kcA
  refine W.widen (k := 1000 + 4 * (c + 1) + tot t') (n := 150000 + 24 * (c + 1) + 2 * tot t') (by omega) (by omega) ?_
  have S := g_comm S
  refine lv_istore (lv' := [(5, .int k), (0, .ref b), (1, .ref (lay.1 36)), (2, .ref (am 0)), (3, .ref o), (4, .int (nI i))]) hx hb dl_1805 hl (by decide) rfl (fun ls hl => ?_)
  refine lv_aload_n hx hb dl_1807 rfl (lv_at hl 3 rfl) ?_
  refine g_arg (j := 1) hx hb hX hbl hbA S.2.2 hL (by omega) (lv_at hl 1 rfl) (lv_at hl 5 rfl) rfl dl_1808 dl_1809 dl_1811 dl_1812 dl_1813 ?_
  refine g_arg (j := 2) hx hb hX hbl hbA S.2.2 hL (by omega) (lv_at hl 1 rfl) (lv_at hl 5 rfl) rfl dl_1814 dl_1815 dl_1817 dl_1818 dl_1819 ?_
  refine g_arg (j := 3) hx hb hX hbl hbA S.2.2 hL (by omega) (lv_at hl 1 rfl) (lv_at hl 5 rfl) rfl dl_1820 dl_1821 dl_1823 dl_1824 dl_1825 ?_
  refine h_callVi (As := [.int (xs (i + 1)), .int (xs (i + 2)), .int (xs (i + 3))]) (na := 3) C Kx S (wM_obj cI cB am μ) rfl ((ct_X12_chain l D cI cB cL am (xs (i + 1)) (xs (i + 2)) (xs (i + 3)) μ hm).toH) lw_9182 lw_9183 lw_9184 mw_5 lw_9185 hdX12_chain ⟨Nat.le_of_ble_eq_true rfl, Nat.le_of_ble_eq_true rfl⟩ rfl hl.1 ⟨(by show _ ≤ 601024; omega), (by show _ ≤ 7293034; omega)⟩ (Nat.le_of_ble_eq_true rfl) dl_1826 rfl (fun r2 X' H locs hRI S => ?_)
  obtain ⟨rfl, rfl⟩ := hRI
  exact law_tail LC' hc KE h36 hI' hth hg hl S dl_1829 dl_1831 dl_1832 dl_1835 dl_1837 dl_1842 dl_1844 dl_1847 dl_1848 dl_1849 dl_1850 dl_1852 dl_1853 dl_1854 dl_1859 (by decide)
theorem lc_late (LC : lawC l D cI cB cL ka kv fv p s m c0 meth b L xs) (hi : i + 5 < L) (hc : c < 512) (KE : lawAt l D cI cB cL p e s m below meth c0 b x o am i 2526 (c + 1)) : lawAt l D cI cB cL p e s m below meth c0 b x o am i 1862 c := by
  intro lay t μ f H locs ls hxx hI S hl
  subst hxx
  have LC' := LC
  obtain ⟨C, Kx, Np, hX, hbl, hst, hL⟩ := LC
  have hx := C.1
  have hb := C.2.1
  have hbA : ¬ (fun q => s.heap.size ≤ q) b := Nat.not_le.mpr hbl
  obtain ⟨r, μ', hm, mc, ms, g, g1, g2, g3, hop⟩ := op_late (l := l) (D := D) (cI := cI) (cB := cB) (cL := cL) (ka := ka) (kv := kv) (fv := fv) hst hI (xs (i + 1))
  have hM := hop lay
  refine lv_aload_n hx hb dl_1862 rfl (lv_at hl 1 rfl) ?_
  refine g_arg (j := 1) hx hb hX hbl hbA S.2.2 hL (by omega) (lv_at hl 0 rfl) (lv_at hl 4 rfl) rfl dl_1863 dl_1864 dl_1866 dl_1867 dl_1868 ?_
  refine lv_aload_n hx hb dl_1869 rfl (lv_at hl 3 rfl) ?_
  refine h_callSW (As := [.ref (lay.1 36), .int (xs (i + 1)), .ref o]) (na := 3) C Kx Np S (wl_late l D cI cB cL ka kv fv (lay.1 36) o f (xs (i + 1)) (lpX_obj cI cB lay t) hM (fun E X' h => by have h := h.1; simpa using h)) lw_9186 lw_9187 lth_6 lw_9188 hdL_late ⟨Nat.le_of_ble_eq_true rfl, Nat.le_of_ble_eq_true rfl⟩ rfl hl.1 ⟨(by show _ ≤ 601024; omega), (by show _ ≤ 7293034; omega)⟩ (Nat.le_of_ble_eq_true rfl) dl_1870 rfl (fun k X' H locs hRW S => ?_)
  obtain ⟨lay', t', g', rfl, h36, ht, hI', hth, hg⟩ := rW_key hRW kcA
  refine W.widen (k := 1000 + 4 * (c + 1) + tot t') (n := 150000 + 24 * (c + 1) + 2 * tot t') (by omega) (by omega) ?_
  have S := g_comm S
  refine lv_istore (lv' := [(5, .int k), (0, .ref b), (1, .ref (lay.1 36)), (2, .ref (am 0)), (3, .ref o), (4, .int (nI i))]) hx hb dl_1873 hl (by decide) rfl (fun ls hl => ?_)
  refine lv_aload_n hx hb dl_1875 rfl (lv_at hl 3 rfl) ?_
  refine g_arg (j := 1) hx hb hX hbl hbA S.2.2 hL (by omega) (lv_at hl 1 rfl) (lv_at hl 5 rfl) rfl dl_1876 dl_1877 dl_1879 dl_1880 dl_1881 ?_
  refine h_callVi (As := [.int (xs (i + 1))]) (na := 1) C Kx S (wM_obj cI cB am μ) rfl ((ct_X12_late l D cI cB cL am (xs (i + 1)) μ hm).toH) lw_9189 lw_9190 lw_9191 mw_5 lw_9192 hdX12_late ⟨Nat.le_of_ble_eq_true rfl, Nat.le_of_ble_eq_true rfl⟩ rfl hl.1 ⟨(by show _ ≤ 601024; omega), (by show _ ≤ 7293034; omega)⟩ (Nat.le_of_ble_eq_true rfl) dl_1882 rfl (fun r2 X' H locs hRI S => ?_)
  obtain ⟨rfl, rfl⟩ := hRI
  exact law_tail LC' hc KE h36 hI' hth hg hl S dl_1885 dl_1887 dl_1888 dl_1891 dl_1893 dl_1898 dl_1900 dl_1903 dl_1904 dl_1905 dl_1906 dl_1908 dl_1909 dl_1910 dl_1915 (by decide)
theorem lc_slowest (LC : lawC l D cI cB cL ka kv fv p s m c0 meth b L xs) (hi : i + 5 < L) (hc : c < 512) (KE : lawAt l D cI cB cL p e s m below meth c0 b x o am i 2526 (c + 1)) : lawAt l D cI cB cL p e s m below meth c0 b x o am i 1918 c := by
  intro lay t μ f H locs ls hxx hI S hl
  subst hxx
  have LC' := LC
  obtain ⟨C, Kx, Np, hX, hbl, hst, hL⟩ := LC
  have hx := C.1
  have hb := C.2.1
  have hbA : ¬ (fun q => s.heap.size ≤ q) b := Nat.not_le.mpr hbl
  obtain ⟨r, μ', hm, mc, ms, g, g1, g2, g3, hop⟩ := op_slowest (l := l) (D := D) (cI := cI) (cB := cB) (cL := cL) (ka := ka) (kv := kv) (fv := fv) hst hI
  have hM := hop lay
  refine lv_aload_n hx hb dl_1918 rfl (lv_at hl 1 rfl) ?_
  refine g_callVi (As := []) (na := 0) C Kx (g_assoc S) (lpX_obj cI cB lay t) rfl hM lw_9193 lw_9194 lw_9195 mw_321 lw_9196 hdX11_slowest ⟨Nat.le_of_ble_eq_true rfl, Nat.le_of_ble_eq_true rfl⟩ rfl hl.1 ⟨(by show _ ≤ 601024; omega), (by show _ ≤ 7293034; omega)⟩ (Nat.le_of_ble_eq_true rfl) dl_1919 rfl (fun E X' ce q9 H locs hRX _ _ _ _ => absurd hRX.1 List.not_mem_nil) (fun r1 X' H locs hRI S => ?_)
  obtain ⟨rfl, hth, lay', t', rfl, h36, ht, hI'⟩ := hRI
  refine W.widen (k := 1000 + 4 * (c + 1) + tot t') (n := 150000 + 24 * (c + 1) + 2 * tot t') (by omega) (by omega) ?_
  have S := g_comm (g_assoc' S)
  refine lv_aload_n hx hb dl_1922 rfl (lv_at hl 2 rfl) ?_
  refine h_callVi (As := []) (na := 0) C Kx S (wM_obj cI cB am μ) rfl ((ct_X12_slowest l D cI cB cL am μ hm).toH) lw_9197 lw_9198 lw_9199 mw_5 lw_9200 hdX12_slowest ⟨Nat.le_of_ble_eq_true rfl, Nat.le_of_ble_eq_true rfl⟩ rfl hl.1 ⟨(by show _ ≤ 601024; omega), (by show _ ≤ 7293034; omega)⟩ (Nat.le_of_ble_eq_true rfl) dl_1923 rfl (fun r2 X' H locs hRI S => ?_)
  obtain ⟨rfl, rfl⟩ := hRI
  have S := g_comm S
  refine lv_icmp_eq (tgt := 2526) hx hb dl_1926 (by decide) (fun _ => ?_) (fun h => absurd rfl h)
  exact KE lay' t' μ' f H locs ls h36 hI' S hl
end LX
