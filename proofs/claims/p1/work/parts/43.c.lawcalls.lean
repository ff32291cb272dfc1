set_option maxRecDepth 20000 in
theorem hhyX12_tryCase : GoodIn lw_tbl wsX12_tryCase := goodIn_r _ [1805, 1431, 1703, 1705, 61, 117, 1706, 1445, 1645, 1646, 1647, 1747, 1749, 68, 1750, 1751, 1753, 69, 1754, 1696, 1697, 1698, 1755, 1757, 70, 1758, 1759, 1761, 71, 1762, 1455, 1448, 1763, 1765, 72, 1766, 1767, 1769, 73, 1770, 1707, 1709, 62, 1710, 1771, 1773, 74, 1774, 1775, 1777, 75, 1778, 1457, 1456, 1779, 1781, 76, 1782, 1723, 1725, 65, 1726, 1783, 1784, 1785, 1479, 1481, 1483, 1485, 1487, 1489, 1491, 1493, 1495, 1497, 1499, 1501, 1503, 1505, 1507, 1509, 1511, 1513, 1515, 1517, 1519, 1521, 1523, 1525, 1527, 1529, 1531, 1533, 1535, 1537, 1539, 1541, 1543, 1545, 1547, 1549, 1551, 1553, 1555, 1557, 1559, 1561, 1563, 1565, 1567, 1569, 1571, 1573] rfl (by decide +kernel)
set_option maxRecDepth 20000 in
theorem hyX12_tryCase : GoodIn lw_tbl (wsV RL 97 RX12 yX12_tryCase wsX12_tryCase) := goodIn_app (goodIn_r _ [1802, 1803, 1804, 117] rfl (by decide +kernel)) hhyX12_tryCase
set_option maxRecDepth 20000 in
theorem hhyX11_appeal : GoodIn lw_tbl wsX11_appeal := goodIn_r _ [859, 852, 854, 16, 106, 855, 514, 202, 780, 782, 11, 783, 515, 522, 784, 785, 786, 109, 787, 288, 291, 298, 788, 790, 12, 791, 304, 296, 792, 793, 794, 795, 796, 798, 13, 799, 310, 800, 801, 802, 803, 286, 804, 805, 806, 115, 807, 467, 466, 464, 813, 593, 118, 594, 808, 809, 810, 811, 294, 812, 723, 722, 121, 302, 306, 308, 814, 815, 816, 817, 818, 820, 14, 821, 243, 207, 194, 827, 822, 823, 824, 825, 752, 753, 754, 748, 749, 750, 108, 751, 244, 223, 236, 826, 745, 746, 747, 210, 828, 830, 15, 831, 528, 530, 532, 534, 536, 538, 540, 542, 544, 546, 548, 550, 552, 554, 556, 246, 248, 250, 252, 254, 256, 258, 260, 262, 264, 266, 268, 270, 272, 274, 276, 312, 314, 316, 318, 320, 322, 324, 326, 328, 330, 332, 468, 470, 472] rfl (by decide +kernel)
set_option maxRecDepth 20000 in
theorem hyX11_appeal : GoodIn lw_tbl (wsV RL 98 RX11 yX11_appeal wsX11_appeal) := goodIn_app (goodIn_r _ [856, 857, 858, 106] rfl (by decide +kernel)) hhyX11_appeal
set_option maxRecDepth 20000 in
theorem hhyX12_appeal : GoodIn lw_tbl wsX12_appeal := goodIn_r _ [1809, 1431, 1703, 1705, 61, 117, 1706, 1445, 1645, 1646, 1647, 1747, 1749, 68, 1750, 1751, 1753, 69, 1754, 1696, 1697, 1698, 1755, 1757, 70, 1758, 1759, 1761, 71, 1762, 1455, 1448, 1763, 1765, 72, 1766, 1767, 1769, 73, 1770, 1707, 1709, 62, 1710, 1771, 1773, 74, 1774, 1775, 1777, 75, 1778, 1457, 1456, 1779, 1781, 76, 1782, 1723, 1725, 65, 1726, 1783, 1784, 1785, 1479, 1481, 1483, 1485, 1487, 1489, 1491, 1493, 1495, 1497, 1499, 1501, 1503, 1505, 1507, 1509, 1511, 1513, 1515, 1517, 1519, 1521, 1523, 1525, 1527, 1529, 1531, 1533, 1535, 1537, 1539, 1541, 1543, 1545, 1547, 1549, 1551, 1553, 1555, 1557, 1559, 1561, 1563, 1565, 1567, 1569, 1571, 1573] rfl (by decide +kernel)
set_option maxRecDepth 20000 in
theorem hyX12_appeal : GoodIn lw_tbl (wsV RL 101 RX12 yX12_appeal wsX12_appeal) := goodIn_app (goodIn_r _ [1806, 1807, 1808, 117] rfl (by decide +kernel)) hhyX12_appeal
set_option maxRecDepth 20000 in
theorem hhyX11_days : GoodIn lw_tbl wsX11_days := goodIn_r _ [863, 515, 865, 593, 118, 594, 864, 801, 802, 109, 803, 286, 780, 782, 11, 106, 783, 522, 514, 784, 785, 786, 787, 288, 291, 298, 788, 790, 12, 791, 304, 296, 792, 793, 794, 795, 796, 798, 13, 799, 310, 800, 804, 805, 806, 115, 807, 467, 466, 464, 813, 808, 809, 810, 811, 294, 812, 723, 722, 121, 302, 306, 308, 814, 815, 816, 817, 818, 820, 14, 821, 243, 207, 194, 827, 822, 823, 824, 825, 752, 753, 754, 748, 749, 750, 108, 751, 244, 223, 236, 826, 745, 746, 747, 210, 828, 830, 15, 831, 528, 530, 532, 534, 536, 538, 540, 542, 544, 546, 548, 550, 552, 554, 556, 312, 314, 316, 318, 320, 322, 324, 326, 328, 330, 332, 468, 470, 472, 246, 248, 250, 252, 254, 256, 258, 260, 262, 264, 266, 268, 270, 272, 274, 276] rfl (by decide +kernel)
set_option maxRecDepth 20000 in
theorem hyX11_days : GoodIn lw_tbl (wsV RL 102 RX11 yX11_days wsX11_days) := goodIn_app (goodIn_r _ [860, 861, 862, 106] rfl (by decide +kernel)) hhyX11_days
set_option maxRecDepth 20000 in
theorem hhyX12_days : GoodIn lw_tbl wsX12_days := goodIn_r _ [1817, 1431, 1445, 1645, 1646, 117, 1647, 1759, 1761, 71, 1762, 1455, 1448, 1818, 1820, 77, 1821, 1783, 1784, 1785, 1479, 1481, 1483, 1485, 1487, 1489, 1491, 1493, 1495, 1497, 1499, 1501, 1503, 1505, 1507, 1509, 1511, 1513, 1515, 1517, 1519, 1521, 1523, 1525, 1527, 1529, 1531, 1533, 1535, 1537, 1539, 1541, 1543, 1545, 1547, 1549, 1551, 1553, 1555, 1557, 1559, 1561, 1563, 1565, 1567, 1569, 1571, 1573] rfl (by decide +kernel)
set_option maxRecDepth 20000 in
theorem hyX12_days : GoodIn lw_tbl (wsV RL 105 RX12 yX12_days wsX12_days) := goodIn_app (goodIn_r _ [1814, 1815, 1816, 117] rfl (by decide +kernel)) hhyX12_days
set_option maxRecDepth 20000 in
theorem hhyX11_undo : GoodIn lw_tbl wsX11_undo := goodIn_r _ [869, 522, 465, 515, 870, 871, 872, 115, 873, 466, 464, 467, 808, 809, 810, 109, 811, 286, 288, 291, 294, 296, 298, 812, 723, 722, 121, 302, 304, 306, 308, 310, 528, 530, 532, 534, 536, 538, 540, 542, 544, 546, 548, 550, 552, 554, 556, 468, 470, 472, 312, 314, 316, 318, 320, 322, 324, 326, 328, 330, 332] rfl (by decide +kernel)
set_option maxRecDepth 20000 in
theorem hyX11_undo : GoodIn lw_tbl (wsV RL 106 RX11 yX11_undo wsX11_undo) := goodIn_app (goodIn_r _ [866, 867, 868, 106] rfl (by decide +kernel)) hhyX11_undo
set_option maxRecDepth 20000 in
theorem hhyX12_undo : GoodIn lw_tbl wsX12_undo := goodIn_r _ [1813, 1431, 1455, 1445, 1448, 1479, 1481, 1483, 1485, 1487, 1489, 1491, 1493, 1495, 1497, 1499, 1501, 1503, 1505, 1507, 1509, 1511, 1513, 1515, 1517, 1519, 1521, 1523, 1525, 1527, 1529, 1531, 1533, 1535, 1537, 1539, 1541, 1543, 1545, 1547, 1549, 1551, 1553, 1555, 1557, 1559, 1561, 1563, 1565, 1567, 1569, 1571, 1573] rfl (by decide +kernel)
set_option maxRecDepth 20000 in
theorem hyX12_undo : GoodIn lw_tbl (wsV RL 109 RX12 yX12_undo wsX12_undo) := goodIn_app (goodIn_r _ [1810, 1811, 1812, 117] rfl (by decide +kernel)) hhyX12_undo
set_option maxRecDepth 20000 in
theorem hhyX11_verdict : GoodIn lw_tbl wsX11_verdict := goodIn_r _ [877, 514, 208, 878, 879, 880, 106, 881, 515, 242, 882, 793, 794, 109, 795, 288, 291, 852, 854, 16, 855, 202, 883, 823, 824, 825, 194, 827, 593, 118, 594, 752, 753, 754, 748, 749, 750, 108, 751, 244, 223, 236, 826, 745, 746, 747, 210, 298, 528, 530, 532, 534, 536, 538, 540, 542, 544, 546, 548, 550, 552, 554, 556, 246, 248, 250, 252, 254, 256, 258, 260, 262, 264, 266, 268, 270, 272, 274, 276, 312, 314, 316, 318, 320, 322, 324, 326, 328, 330, 332] rfl (by decide +kernel)
set_option maxRecDepth 20000 in
theorem hyX11_verdict : GoodIn lw_tbl (wsV RL 110 RX11 yX11_verdict wsX11_verdict) := goodIn_app (goodIn_r _ [874, 875, 876, 106] rfl (by decide +kernel)) hhyX11_verdict
set_option maxRecDepth 20000 in
theorem hhyX12_verdict : GoodIn lw_tbl wsX12_verdict := goodIn_r _ [1825, 1431, 1703, 1705, 61, 117, 1706, 1445, 1645, 1646, 1647, 1755, 1757, 70, 1758, 1707, 1709, 62, 1710, 1771, 1773, 74, 1774, 1775, 1777, 75, 1778, 1457, 1456, 1779, 1781, 76, 1782, 1696, 1697, 1698, 1723, 1725, 65, 1726, 1479, 1481, 1483, 1485, 1487, 1489, 1491, 1493, 1495, 1497, 1499, 1501, 1503, 1505, 1507, 1509, 1511, 1513, 1515, 1517, 1519, 1521, 1523, 1525, 1527, 1529, 1531, 1533, 1535, 1537, 1539, 1541, 1543, 1545, 1547, 1549, 1551, 1553, 1555, 1557, 1559, 1561, 1563, 1565, 1567, 1569, 1571, 1573] rfl (by decide +kernel)
set_option maxRecDepth 20000 in
theorem hyX12_verdict : GoodIn lw_tbl (wsV RL 113 RX12 yX12_verdict wsX12_verdict) := goodIn_app (goodIn_r _ [1822, 1823, 1824, 117] rfl (by decide +kernel)) hhyX12_verdict
set_option maxRecDepth 20000 in
theorem hhyX11_spread : GoodIn lw_tbl wsX11_spread := goodIn_r _ [881, 515, 514, 242, 882, 793, 794, 109, 795, 288, 291, 852, 854, 16, 106, 855, 202, 883, 823, 824, 825, 194, 827, 593, 118, 594, 752, 753, 754, 748, 749, 750, 108, 751, 244, 223, 236, 826, 745, 746, 747, 210, 298, 528, 530, 532, 534, 536, 538, 540, 542, 544, 546, 548, 550, 552, 554, 556, 246, 248, 250, 252, 254, 256, 258, 260, 262, 264, 266, 268, 270, 272, 274, 276, 312, 314, 316, 318, 320, 322, 324, 326, 328, 330, 332] rfl (by decide +kernel)
set_option maxRecDepth 20000 in
theorem hyX11_spread : GoodIn lw_tbl (wsV RL 114 RX11 yX11_spread wsX11_spread) := goodIn_app (goodIn_r _ [884, 879, 880, 106] rfl (by decide +kernel)) hhyX11_spread
set_option maxRecDepth 20000 in
theorem hhyX12_spread : GoodIn lw_tbl wsX12_spread := goodIn_r _ [1829, 1431, 1457, 1456, 1703, 1705, 61, 117, 1706, 1445, 1645, 1646, 1647, 1755, 1757, 70, 1758, 1707, 1709, 62, 1710, 1779, 1781, 76, 1782, 1696, 1697, 1698, 1723, 1725, 65, 1726, 1479, 1481, 1483, 1485, 1487, 1489, 1491, 1493, 1495, 1497, 1499, 1501, 1503, 1505, 1507, 1509, 1511, 1513, 1515, 1517, 1519, 1521, 1523, 1525, 1527, 1529, 1531, 1533, 1535, 1537, 1539, 1541, 1543, 1545, 1547, 1549, 1551, 1553, 1555, 1557, 1559, 1561, 1563, 1565, 1567, 1569, 1571, 1573] rfl (by decide +kernel)
set_option maxRecDepth 20000 in
theorem hyX12_spread : GoodIn lw_tbl (wsV RL 117 RX12 yX12_spread wsX12_spread) := goodIn_app (goodIn_r _ [1826, 1827, 1828, 117] rfl (by decide +kernel)) hhyX12_spread
set_option maxRecDepth 20000 in
theorem hhyX11_longest : GoodIn lw_tbl wsX11_longest := goodIn_r _ [888, 515, 514, 195, 242, 889, 753, 118, 754, 882, 793, 794, 109, 795, 288, 291, 852, 854, 16, 106, 855, 202, 759, 760, 761, 108, 762, 227, 238, 763, 528, 530, 532, 534, 536, 538, 540, 542, 544, 546, 548, 550, 552, 554, 556, 246, 248, 250, 252, 254, 256, 258, 260, 262, 264, 266, 268, 270, 272, 274, 276, 312, 314, 316, 318, 320, 322, 324, 326, 328, 330, 332] rfl (by decide +kernel)
set_option maxRecDepth 20000 in
theorem hyX11_longest : GoodIn lw_tbl (wsV RL 118 RX11 yX11_longest wsX11_longest) := goodIn_app (goodIn_r _ [885, 886, 887, 106] rfl (by decide +kernel)) hhyX11_longest
set_option maxRecDepth 20000 in
theorem hhyX12_longest : GoodIn lw_tbl wsX12_longest := goodIn_r _ [1833, 1431, 1703, 1705, 61, 117, 1706, 1445, 1645, 1646, 1647, 1755, 1757, 70, 1758, 1696, 1697, 1698, 1707, 1709, 62, 1710, 1731, 1733, 66, 1734, 1479, 1481, 1483, 1485, 1487, 1489, 1491, 1493, 1495, 1497, 1499, 1501, 1503, 1505, 1507, 1509, 1511, 1513, 1515, 1517, 1519, 1521, 1523, 1525, 1527, 1529, 1531, 1533, 1535, 1537, 1539, 1541, 1543, 1545, 1547, 1549, 1551, 1553, 1555, 1557, 1559, 1561, 1563, 1565, 1567, 1569, 1571, 1573] rfl (by decide +kernel)
set_option maxRecDepth 20000 in
theorem hyX12_longest : GoodIn lw_tbl (wsV RL 121 RX12 yX12_longest wsX12_longest) := goodIn_app (goodIn_r _ [1830, 1831, 1832, 117] rfl (by decide +kernel)) hhyX12_longest
set_option maxRecDepth 20000 in
theorem hhyX11_agree : GoodIn lw_tbl wsX11_agree := goodIn_r _ [893, 514, 195, 520, 515, 524, 740, 742, 10, 106, 743, 198, 894, 895, 896, 114, 897, 191, 436, 437, 903, 593, 118, 594, 904, 753, 754, 898, 899, 126, 900, 901, 902, 745, 746, 109, 747, 210, 298, 752, 748, 749, 750, 108, 751, 244, 223, 236, 905, 906, 907, 908, 204, 909, 910, 911, 912, 913, 914, 915, 916, 917, 918, 919, 528, 530, 532, 534, 536, 538, 540, 542, 544, 546, 548, 550, 552, 554, 556, 246, 248, 250, 252, 254, 256, 258, 260, 262, 264, 266, 268, 270, 272, 274, 276, 441, 443, 445, 447, 449, 451, 312, 314, 316, 318, 320, 322, 324, 326, 328, 330, 332] rfl (by decide +kernel)
set_option maxRecDepth 20000 in
theorem hyX11_agree : GoodIn lw_tbl (wsV RL 122 RX11 yX11_agree wsX11_agree) := goodIn_app (goodIn_r _ [890, 891, 892, 106] rfl (by decide +kernel)) hhyX11_agree
set_option maxRecDepth 20000 in
theorem hhyX12_agree : GoodIn lw_tbl wsX12_agree := goodIn_r _ [1837, 1431, 1445, 1458, 1715, 1717, 63, 117, 1718, 1645, 1646, 1647, 1838, 1839, 1840, 1771, 1773, 74, 1774, 1775, 1777, 75, 1778, 1457, 1456, 1779, 1781, 76, 1782, 1696, 1697, 1698, 1723, 1725, 65, 1726, 1479, 1481, 1483, 1485, 1487, 1489, 1491, 1493, 1495, 1497, 1499, 1501, 1503, 1505, 1507, 1509, 1511, 1513, 1515, 1517, 1519, 1521, 1523, 1525, 1527, 1529, 1531, 1533, 1535, 1537, 1539, 1541, 1543, 1545, 1547, 1549, 1551, 1553, 1555, 1557, 1559, 1561, 1563, 1565, 1567, 1569, 1571, 1573] rfl (by decide +kernel)
set_option maxRecDepth 20000 in
theorem hyX12_agree : GoodIn lw_tbl (wsV RL 125 RX12 yX12_agree wsX12_agree) := goodIn_app (goodIn_r _ [1834, 1835, 1836, 117] rfl (by decide +kernel)) hhyX12_agree
set_option maxRecDepth 20000 in
theorem hhyX11_agreed : GoodIn lw_tbl wsX11_agreed := goodIn_r _ [923, 524, 528, 530, 532, 534, 536, 538, 540, 542, 544, 546, 548, 550, 552, 554, 556] rfl (by decide +kernel)
set_option maxRecDepth 20000 in
theorem hyX11_agreed : GoodIn lw_tbl (wsV RL 126 RX11 yX11_agreed wsX11_agreed) := goodIn_app (goodIn_r _ [920, 921, 922, 106] rfl (by decide +kernel)) hhyX11_agreed
set_option maxRecDepth 20000 in
theorem hhyX12_agreed : GoodIn lw_tbl wsX12_agreed := goodIn_r _ [1844, 1431, 1458, 1479, 1481, 1483, 1485, 1487, 1489, 1491, 1493, 1495, 1497, 1499, 1501, 1503, 1505, 1507, 1509, 1511, 1513, 1515, 1517, 1519, 1521, 1523, 1525, 1527, 1529, 1531, 1533, 1535, 1537, 1539, 1541, 1543, 1545, 1547, 1549, 1551, 1553, 1555, 1557, 1559, 1561, 1563, 1565, 1567, 1569, 1571, 1573] rfl (by decide +kernel)
set_option maxRecDepth 20000 in
theorem hyX12_agreed : GoodIn lw_tbl (wsV RL 129 RX12 yX12_agreed wsX12_agreed) := goodIn_app (goodIn_r _ [1841, 1842, 1843, 117] rfl (by decide +kernel)) hhyX12_agreed
set_option maxRecDepth 20000 in
theorem hhyX11_jury : GoodIn lw_tbl wsX11_jury := goodIn_r _ [927, 514, 195, 520, 515, 242, 524, 852, 854, 16, 106, 855, 202, 894, 895, 896, 114, 897, 191, 436, 437, 903, 593, 118, 594, 904, 753, 754, 898, 899, 126, 900, 901, 902, 745, 746, 109, 747, 210, 298, 752, 748, 749, 750, 108, 751, 244, 223, 236, 928, 929, 930, 931, 913, 914, 915, 916, 917, 918, 909, 910, 911, 912, 932, 528, 530, 532, 534, 536, 538, 540, 542, 544, 546, 548, 550, 552, 554, 556, 246, 248, 250, 252, 254, 256, 258, 260, 262, 264, 266, 268, 270, 272, 274, 276, 441, 443, 445, 447, 449, 451, 312, 314, 316, 318, 320, 322, 324, 326, 328, 330, 332] rfl (by decide +kernel)
set_option maxRecDepth 20000 in
theorem hyX11_jury : GoodIn lw_tbl (wsV RL 130 RX11 yX11_jury wsX11_jury) := goodIn_app (goodIn_r _ [924, 925, 926, 106] rfl (by decide +kernel)) hhyX11_jury
set_option maxRecDepth 20000 in
theorem hhyX12_jury : GoodIn lw_tbl wsX12_jury := goodIn_r _ [1848, 1431, 1445, 1457, 1456, 1459, 1703, 1705, 61, 117, 1706, 1645, 1646, 1647, 1838, 1839, 1840, 1707, 1709, 62, 1710, 1779, 1781, 76, 1782, 1696, 1697, 1698, 1723, 1725, 65, 1726, 1479, 1481, 1483, 1485, 1487, 1489, 1491, 1493, 1495, 1497, 1499, 1501, 1503, 1505, 1507, 1509, 1511, 1513, 1515, 1517, 1519, 1521, 1523, 1525, 1527, 1529, 1531, 1533, 1535, 1537, 1539, 1541, 1543, 1545, 1547, 1549, 1551, 1553, 1555, 1557, 1559, 1561, 1563, 1565, 1567, 1569, 1571, 1573] rfl (by decide +kernel)
set_option maxRecDepth 20000 in
theorem hyX12_jury : GoodIn lw_tbl (wsV RL 133 RX12 yX12_jury wsX12_jury) := goodIn_app (goodIn_r _ [1845, 1846, 1847, 117] rfl (by decide +kernel)) hhyX12_jury
set_option maxRecDepth 20000 in
theorem hhyX11_jurors : GoodIn lw_tbl wsX11_jurors := goodIn_r _ [936, 524, 528, 530, 532, 534, 536, 538, 540, 542, 544, 546, 548, 550, 552, 554, 556] rfl (by decide +kernel)
set_option maxRecDepth 20000 in
theorem hyX11_jurors : GoodIn lw_tbl (wsV RL 134 RX11 yX11_jurors wsX11_jurors) := goodIn_app (goodIn_r _ [933, 934, 935, 106] rfl (by decide +kernel)) hhyX11_jurors
set_option maxRecDepth 20000 in
theorem hhyX12_jurors : GoodIn lw_tbl wsX12_jurors := goodIn_r _ [1852, 1431, 1459, 1479, 1481, 1483, 1485, 1487, 1489, 1491, 1493, 1495, 1497, 1499, 1501, 1503, 1505, 1507, 1509, 1511, 1513, 1515, 1517, 1519, 1521, 1523, 1525, 1527, 1529, 1531, 1533, 1535, 1537, 1539, 1541, 1543, 1545, 1547, 1549, 1551, 1553, 1555, 1557, 1559, 1561, 1563, 1565, 1567, 1569, 1571, 1573] rfl (by decide +kernel)
set_option maxRecDepth 20000 in
theorem hyX12_jurors : GoodIn lw_tbl (wsV RL 137 RX12 yX12_jurors wsX12_jurors) := goodIn_app (goodIn_r _ [1849, 1850, 1851, 117] rfl (by decide +kernel)) hhyX12_jurors
set_option maxRecDepth 20000 in
theorem hhyL_likely : GoodIn lw_tbl wsL_likely := goodIn_ca (goodIn_r _ [1368, 1293, 1369, 1370, 1371, 106, 1372, 1298, 125, 520, 514, 515, 242, 290, 208, 852, 854, 16, 855, 202, 894, 895, 896, 114, 897, 191, 436, 437, 903, 593, 118, 594, 904, 753, 754, 898, 899, 126, 900, 901, 902, 745, 746, 109, 747, 210, 298, 752, 748, 749, 750, 108, 751, 244, 223, 236, 1373, 1374, 1375, 1376, 438, 439, 233, 1377, 1378, 1379, 1380, 1385, 1381, 1383, 35, 1384, 909, 910, 911, 912, 913, 914, 915, 916, 917, 918, 1386, 1387, 1388, 528, 530, 532, 534, 536, 538, 540, 542, 544, 546, 548, 550, 552, 554, 556, 246, 248, 250, 252, 254, 256, 258, 260, 262, 264, 266, 268, 270, 272, 274, 276, 312, 314, 316, 318, 320, 322, 324, 326, 328, 330, 332, 441, 443, 445, 447, 449, 451] rfl (by decide +kernel)) lw_x
set_option maxRecDepth 20000 in
theorem hyL_likely : GoodIn lw_tbl (va_wsS RL 138 yL_likely wsL_likely) := goodIn_app (goodIn_r _ [1366, 1367, 105] rfl (by decide +kernel)) hhyL_likely
set_option maxRecDepth 20000 in
theorem hhyX12_likely : GoodIn lw_tbl wsX12_likely := goodIn_r _ [1856, 1431, 1445, 1703, 1705, 61, 117, 1706, 1645, 1646, 1647, 1692, 1694, 60, 1695, 1707, 1709, 62, 1710, 1857, 1859, 78, 1860, 1771, 1773, 74, 1774, 1775, 1777, 75, 1778, 1457, 1456, 1779, 1781, 76, 1782, 1696, 1697, 1698, 1723, 1725, 65, 1726, 1838, 1839, 1840, 1861, 1863, 79, 1864, 1865, 1866, 1867, 1868, 1479, 1481, 1483, 1485, 1487, 1489, 1491, 1493, 1495, 1497, 1499, 1501, 1503, 1505, 1507, 1509, 1511, 1513, 1515, 1517, 1519, 1521, 1523, 1525, 1527, 1529, 1531, 1533, 1535, 1537, 1539, 1541, 1543, 1545, 1547, 1549, 1551, 1553, 1555, 1557, 1559, 1561, 1563, 1565, 1567, 1569, 1571, 1573] rfl (by decide +kernel)
set_option maxRecDepth 20000 in
theorem hyX12_likely : GoodIn lw_tbl (wsV RL 140 RX12 yX12_likely wsX12_likely) := goodIn_app (goodIn_r _ [1853, 1854, 1855, 117] rfl (by decide +kernel)) hhyX12_likely
set_option maxRecDepth 20000 in
theorem hhyL_panel : GoodIn lw_tbl wsL_panel := goodIn_ca (goodIn_r _ [1391, 1293, 1392, 1393, 1394, 106, 1395, 1298, 125, 514, 195, 520, 515, 242, 524, 208, 852, 854, 16, 855, 202, 894, 895, 896, 114, 897, 191, 436, 437, 903, 593, 118, 594, 904, 753, 754, 898, 899, 126, 900, 901, 902, 745, 746, 109, 747, 210, 298, 752, 748, 749, 750, 108, 751, 244, 223, 236, 1373, 1374, 1375, 1376, 438, 439, 233, 1396, 1397, 1398, 1399, 1400, 204, 913, 914, 915, 916, 917, 918, 1381, 1383, 35, 1384, 909, 910, 911, 912, 1377, 1378, 1379, 1380, 1385, 1386, 1387, 1388, 528, 530, 532, 534, 536, 538, 540, 542, 544, 546, 548, 550, 552, 554, 556, 246, 248, 250, 252, 254, 256, 258, 260, 262, 264, 266, 268, 270, 272, 274, 276, 441, 443, 445, 447, 449, 451, 312, 314, 316, 318, 320, 322, 324, 326, 328, 330, 332] rfl (by decide +kernel)) lw_x
set_option maxRecDepth 20000 in
theorem hyL_panel : GoodIn lw_tbl (va_wsS RL 141 yL_panel wsL_panel) := goodIn_app (goodIn_r _ [1389, 1390, 105] rfl (by decide +kernel)) hhyL_panel
set_option maxRecDepth 20000 in
theorem hhyX12_panel : GoodIn lw_tbl wsX12_panel := goodIn_r _ [1872, 1431, 1445, 1873, 1460, 1703, 1705, 61, 117, 1706, 1645, 1646, 1647, 1692, 1694, 60, 1695, 1838, 1839, 1840, 1707, 1709, 62, 1710, 1857, 1859, 78, 1860, 1771, 1773, 74, 1774, 1775, 1777, 75, 1778, 1457, 1456, 1779, 1781, 76, 1782, 1696, 1697, 1698, 1723, 1725, 65, 1726, 1861, 1863, 79, 1864, 1865, 1866, 1867, 1868, 1479, 1481, 1483, 1485, 1487, 1489, 1491, 1493, 1495, 1497, 1499, 1501, 1503, 1505, 1507, 1509, 1511, 1513, 1515, 1517, 1519, 1521, 1523, 1525, 1527, 1529, 1531, 1533, 1535, 1537, 1539, 1541, 1543, 1545, 1547, 1549, 1551, 1553, 1555, 1557, 1559, 1561, 1563, 1565, 1567, 1569, 1571, 1573] rfl (by decide +kernel)
set_option maxRecDepth 20000 in
theorem hyX12_panel : GoodIn lw_tbl (wsV RL 144 RX12 yX12_panel wsX12_panel) := goodIn_app (goodIn_r _ [1869, 1870, 1871, 117] rfl (by decide +kernel)) hhyX12_panel
set_option maxRecDepth 20000 in
theorem hhyX11_panelled : GoodIn lw_tbl wsX11_panelled := goodIn_r _ [940, 524, 528, 530, 532, 534, 536, 538, 540, 542, 544, 546, 548, 550, 552, 554, 556] rfl (by decide +kernel)
set_option maxRecDepth 20000 in
theorem hyX11_panelled : GoodIn lw_tbl (wsV RL 145 RX11 yX11_panelled wsX11_panelled) := goodIn_app (goodIn_r _ [937, 938, 939, 106] rfl (by decide +kernel)) hhyX11_panelled
set_option maxRecDepth 20000 in
theorem hhyX12_panelled : GoodIn lw_tbl wsX12_panelled := goodIn_r _ [1877, 1431, 1460, 1479, 1481, 1483, 1485, 1487, 1489, 1491, 1493, 1495, 1497, 1499, 1501, 1503, 1505, 1507, 1509, 1511, 1513, 1515, 1517, 1519, 1521, 1523, 1525, 1527, 1529, 1531, 1533, 1535, 1537, 1539, 1541, 1543, 1545, 1547, 1549, 1551, 1553, 1555, 1557, 1559, 1561, 1563, 1565, 1567, 1569, 1571, 1573] rfl (by decide +kernel)
set_option maxRecDepth 20000 in
theorem hyX12_panelled : GoodIn lw_tbl (wsV RL 148 RX12 yX12_panelled wsX12_panelled) := goodIn_app (goodIn_r _ [1874, 1875, 1876, 117] rfl (by decide +kernel)) hhyX12_panelled
set_option maxRecDepth 20000 in
theorem hhyX11_heard : GoodIn lw_tbl wsX11_heard := goodIn_r _ [944, 513, 147, 146, 520, 514, 515, 290, 524, 740, 742, 10, 106, 743, 198, 894, 895, 896, 114, 897, 191, 436, 437, 903, 593, 118, 594, 904, 753, 754, 898, 899, 126, 900, 901, 902, 745, 746, 109, 747, 210, 298, 752, 748, 749, 750, 108, 751, 244, 223, 236, 945, 946, 947, 948, 440, 949, 950, 951, 952, 953, 954, 955, 956, 957, 958, 959, 528, 530, 532, 534, 536, 538, 540, 542, 544, 546, 548, 550, 552, 554, 556, 162, 164, 166, 168, 170, 172, 174, 176, 178, 180, 312, 314, 316, 318, 320, 322, 324, 326, 328, 330, 332, 246, 248, 250, 252, 254, 256, 258, 260, 262, 264, 266, 268, 270, 272, 274, 276, 441, 443, 445, 447, 449, 451] rfl (by decide +kernel)
set_option maxRecDepth 20000 in
theorem hyX11_heard : GoodIn lw_tbl (wsV RL 149 RX11 yX11_heard wsX11_heard) := goodIn_app (goodIn_r _ [941, 942, 943, 106] rfl (by decide +kernel)) hhyX11_heard
set_option maxRecDepth 20000 in
theorem hhyX12_heard : GoodIn lw_tbl wsX12_heard := goodIn_r _ [1881, 1431, 1432, 1461, 1445, 1456, 1457, 1462, 1463, 1584, 1586, 40, 117, 1587, 1433, 1715, 1717, 63, 1718, 1645, 1646, 1647, 1779, 1781, 76, 1782, 1696, 1697, 1698, 1723, 1725, 65, 1726, 1882, 1883, 1884, 1479, 1481, 1483, 1485, 1487, 1489, 1491, 1493, 1495, 1497, 1499, 1501, 1503, 1505, 1507, 1509, 1511, 1513, 1515, 1517, 1519, 1521, 1523, 1525, 1527, 1529, 1531, 1533, 1535, 1537, 1539, 1541, 1543, 1545, 1547, 1549, 1551, 1553, 1555, 1557, 1559, 1561, 1563, 1565, 1567, 1569, 1571, 1573] rfl (by decide +kernel)
set_option maxRecDepth 20000 in
theorem hyX12_heard : GoodIn lw_tbl (wsV RL 152 RX12 yX12_heard wsX12_heard) := goodIn_app (goodIn_r _ [1878, 1879, 1880, 117] rfl (by decide +kernel)) hhyX12_heard
set_option maxRecDepth 20000 in
theorem hhyX11_surely : GoodIn lw_tbl wsX11_surely := goodIn_r _ [963, 524, 528, 530, 532, 534, 536, 538, 540, 542, 544, 546, 548, 550, 552, 554, 556] rfl (by decide +kernel)
set_option maxRecDepth 20000 in
theorem hyX11_surely : GoodIn lw_tbl (wsV RL 153 RX11 yX11_surely wsX11_surely) := goodIn_app (goodIn_r _ [960, 961, 962, 106] rfl (by decide +kernel)) hhyX11_surely
set_option maxRecDepth 20000 in
theorem hhyX12_surely : GoodIn lw_tbl wsX12_surely := goodIn_r _ [1888, 1431, 1462, 1479, 1481, 1483, 1485, 1487, 1489, 1491, 1493, 1495, 1497, 1499, 1501, 1503, 1505, 1507, 1509, 1511, 1513, 1515, 1517, 1519, 1521, 1523, 1525, 1527, 1529, 1531, 1533, 1535, 1537, 1539, 1541, 1543, 1545, 1547, 1549, 1551, 1553, 1555, 1557, 1559, 1561, 1563, 1565, 1567, 1569, 1571, 1573] rfl (by decide +kernel)
set_option maxRecDepth 20000 in
theorem hyX12_surely : GoodIn lw_tbl (wsV RL 156 RX12 yX12_surely wsX12_surely) := goodIn_app (goodIn_r _ [1885, 1886, 1887, 117] rfl (by decide +kernel)) hhyX12_surely
set_option maxRecDepth 20000 in
theorem hhyX11_ask : GoodIn lw_tbl wsX11_ask := goodIn_r _ [967, 524, 528, 530, 532, 534, 536, 538, 540, 542, 544, 546, 548, 550, 552, 554, 556] rfl (by decide +kernel)
set_option maxRecDepth 20000 in
theorem hyX11_ask : GoodIn lw_tbl (wsV RL 157 RX11 yX11_ask wsX11_ask) := goodIn_app (goodIn_r _ [964, 965, 966, 106] rfl (by decide +kernel)) hhyX11_ask
