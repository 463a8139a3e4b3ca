theorem mem_pos {big ws : List Cond} (ps : List Nat) (hp : ws = ps.filterMap (fun i => big[i]?)) : ∀ w ∈ ws, w ∈ big := fun w hw => by
  rw [hp] at hw
  obtain ⟨i, -, hi⟩ := List.mem_filterMap.mp hw
  exact List.mem_of_getElem? hi
set_option maxRecDepth 100000 in
theorem pl_wsL_law0_r1 : ∀ w ∈ wsL_law0_r1, w ∈ lw_tbl := mem_pos [111, 112, 85, 1379, 1380, 98, 388, 2008, 113, 114, 115, 116, 117, 118, 119, 120, 86, 596, 136, 137, 87, 597, 160, 161] (by decide +kernel)
set_option maxRecDepth 100000 in
theorem pl_wsL_law0_r2 : ∀ w ∈ wsL_law0_r2, w ∈ lw_tbl := mem_pos [88, 598, 599, 600, 200, 201, 90, 601, 276, 277, 91, 602, 335, 336, 93, 603, 389, 390, 94, 604, 425, 426, 95, 605] (by decide +kernel)
set_option maxRecDepth 100000 in
theorem pl_wsL_law0_r3 : ∀ w ∈ wsL_law0_r3, w ∈ lw_tbl := mem_pos [492, 493, 96, 606, 564, 565, 97, 607, 608, 121, 122, 123, 124, 135, 125, 138, 139, 140, 141, 143, 146, 144, 163, 164] (by decide +kernel)
set_option maxRecDepth 100000 in
theorem pl_wsL_law0_r4 : ∀ w ∈ wsL_law0_r4, w ∈ lw_tbl := mem_pos [165, 166, 184, 179, 167, 181, 182, 169, 170, 171, 89, 172, 2026, 173, 174, 175, 176, 177, 2027, 202, 203, 204, 205, 206] (by decide +kernel)
set_option maxRecDepth 100000 in
theorem pl_wsL_law0_r5 : ∀ w ∈ wsL_law0_r5, w ∈ lw_tbl := mem_pos [209, 211, 222, 227, 232, 233, 234, 235, 236, 237, 275, 238, 278, 279, 280, 281, 286, 288, 296, 300, 304, 305, 308, 309] (by decide +kernel)
set_option maxRecDepth 100000 in
theorem pl_wsL_law0_r6 : ∀ w ∈ wsL_law0_r6, w ∈ lw_tbl := mem_pos [282, 283, 284, 92, 285, 337, 338, 339, 340, 357, 358, 359, 360, 355, 356, 391, 392, 393, 394, 401, 402, 399, 400, 427] (by decide +kernel)
set_option maxRecDepth 100000 in
theorem pl_wsL_law0_r7 : ∀ w ∈ wsL_law0_r7, w ∈ lw_tbl := mem_pos [428, 429, 430, 437, 438, 439, 440, 441, 442, 443, 444, 445, 446, 447, 448, 449, 494, 495, 496, 497, 508, 510, 512, 514] (by decide +kernel)
set_option maxRecDepth 100000 in
theorem pl_wsL_law0_r8 : ∀ w ∈ wsL_law0_r8, w ∈ lw_tbl := mem_pos [516, 517, 518, 519, 520, 521, 524, 525, 566, 567, 568, 569, 579, 580, 578, 1381, 1382, 1383, 1384, 159, 1388, 1389, 1390, 1391] (by decide +kernel)
set_option maxRecDepth 100000 in
theorem pl_wsL_law0_r9 : ∀ w ∈ wsL_law0_r9, w ∈ lw_tbl := mem_pos [1392, 1393, 1401, 1403, 1404, 1405, 1406, 1407, 1408, 1409, 1410, 1411, 1412, 1413, 1414, 1418, 1419, 1420, 1421, 1428, 1429, 1430, 1431, 1432] (by decide +kernel)
set_option maxRecDepth 100000 in
theorem pl_wsL_law0_r10 : ∀ w ∈ wsL_law0_r10, w ∈ lw_tbl := mem_pos [1433, 1434, 1435, 1436, 1437, 1438, 1439, 1441, 1442, 1443, 1444, 1445, 1446, 1447, 1448, 1449, 1450, 636, 637, 638, 639, 640, 641, 642] (by decide +kernel)
set_option maxRecDepth 100000 in
theorem pl_wsL_law0_r11 : ∀ w ∈ wsL_law0_r11, w ∈ lw_tbl := mem_pos [1598, 1599, 1600, 1601, 1386, 1387, 1602, 1603, 1604, 643, 644, 645, 646, 129, 647, 648, 649, 650, 651, 652, 653, 128, 1605, 1606] (by decide +kernel)
set_option maxRecDepth 100000 in
theorem pl_wsL_law0_r12 : ∀ w ∈ wsL_law0_r12, w ∈ lw_tbl := mem_pos [1607, 1608, 1394, 1609, 1610, 1611, 1612, 1614, 31, 1615, 654, 655, 656, 657, 1616, 1617, 1618, 1619, 658, 659, 660, 661, 180, 662] (by decide +kernel)
set_option maxRecDepth 100000 in
theorem pl_wsL_law0_r13 : ∀ w ∈ wsL_law0_r13, w ∈ lw_tbl := mem_pos [664, 0, 665, 666, 667, 668, 669, 147, 145, 127, 670, 672, 1, 673, 674, 676, 2, 677, 678, 680, 3, 681, 126, 682] (by decide +kernel)
set_option maxRecDepth 100000 in
theorem pl_wsL_law0_r14 : ∀ w ∈ wsL_law0_r14, w ∈ lw_tbl := mem_pos [684, 4, 685, 686, 688, 5, 694, 696, 7, 697, 689, 690, 692, 6, 693, 698, 699, 700, 701, 702, 703, 704, 705, 706] (by decide +kernel)
set_option maxRecDepth 100000 in
theorem pl_wsL_law0_r15 : ∀ w ∈ wsL_law0_r15, w ∈ lw_tbl := mem_pos [707, 708, 709, 710, 711, 712, 99, 713, 717, 718, 100, 719, 720, 721, 722, 714, 715, 716, 723, 724, 725, 726, 727, 101] (by decide +kernel)
set_option maxRecDepth 100000 in
theorem pl_wsL_law0_r16 : ∀ w ∈ wsL_law0_r16, w ∈ lw_tbl := mem_pos [728, 729, 730, 731, 732, 733, 734, 735, 736, 737, 738, 739, 740, 741, 742, 743, 744, 746, 747, 102, 748, 749, 750, 751] (by decide +kernel)
set_option maxRecDepth 100000 in
theorem pl_wsL_law0_r17 : ∀ w ∈ wsL_law0_r17, w ∈ lw_tbl := mem_pos [752, 753, 754, 755, 757, 759, 761, 762, 763, 764, 765, 103, 766, 767, 768, 769, 770, 771, 772, 773, 774, 775, 776, 777] (by decide +kernel)
set_option maxRecDepth 100000 in
theorem pl_wsL_law0_r18 : ∀ w ∈ wsL_law0_r18, w ∈ lw_tbl := mem_pos [778, 780, 8, 781, 782, 784, 9, 785, 1620, 1621, 1622, 1623, 1398, 1624, 1626, 32, 1627, 1395, 1396, 1397, 1399, 1402, 1400, 1630] (by decide +kernel)
set_option maxRecDepth 100000 in
theorem pl_wsL_law0_r19 : ∀ w ∈ wsL_law0_r19, w ∈ lw_tbl := mem_pos [1632, 33, 1633, 1634, 1636, 34, 1637, 1638, 1640, 35, 1641, 1642, 1644, 36, 1645, 1646, 1648, 37, 1649, 1650, 1652, 38, 1653, 1654] (by decide +kernel)
set_option maxRecDepth 100000 in
theorem pl_wsL_law0_r20 : ∀ w ∈ wsL_law0_r20, w ∈ lw_tbl := mem_pos [1656, 39, 1657, 1658, 1660, 40, 1661, 1662, 1664, 41, 1679, 1680, 1681, 1682, 1683, 1684, 916, 917, 1685, 919, 920, 1669, 1670, 1671] (by decide +kernel)
set_option maxRecDepth 100000 in
theorem pl_wsL_law0_r21 : ∀ w ∈ wsL_law0_r21, w ∈ lw_tbl := mem_pos [1673, 43, 1674, 1675, 1677, 44, 1678, 1665, 1666, 1668, 42, 1686, 1687, 1688, 1689, 1691, 45, 1692, 786, 787, 788, 789, 790, 791] (by decide +kernel)
set_option maxRecDepth 100000 in
theorem pl_wsL_law0_r22 : ∀ w ∈ wsL_law0_r22, w ∈ lw_tbl := mem_pos [792, 793, 185, 794, 795, 796, 797, 798, 799, 104, 800, 801, 802, 803, 804, 805, 806, 807, 809, 810, 811, 813, 812, 105] (by decide +kernel)
set_option maxRecDepth 100000 in
theorem pl_wsL_law0_r23 : ∀ w ∈ wsL_law0_r23, w ∈ lw_tbl := mem_pos [814, 815, 816, 817, 818, 822, 823, 824, 825, 826, 1693, 1694, 1695, 1696, 1310, 1311, 84, 1312, 1313, 1314, 1315, 1316, 1317, 1318] (by decide +kernel)
set_option maxRecDepth 100000 in
theorem pl_wsL_law0_r24 : ∀ w ∈ wsL_law0_r24, w ∈ lw_tbl := mem_pos [109, 831, 832, 833, 834, 879, 880, 881, 886, 887, 888, 889, 890, 891, 892, 893, 898, 899, 900, 901, 902, 903, 904, 905] (by decide +kernel)
set_option maxRecDepth 100000 in
theorem pl_wsL_law0_r25 : ∀ w ∈ wsL_law0_r25, w ∈ lw_tbl := mem_pos [906, 907, 908, 909, 910, 911, 912, 913, 914, 915, 918, 1697, 1698, 1699, 1700, 1701, 1702, 1703, 1704, 1706, 46, 1707, 1708, 1710] (by decide +kernel)
set_option maxRecDepth 100000 in
theorem pl_wsL_law0_r26 : ∀ w ∈ wsL_law0_r26, w ∈ lw_tbl := mem_pos [47, 1711, 1712, 1714, 48, 1715, 1594, 1595, 1596, 1597, 827, 828, 829, 830, 214, 835, 836, 837, 838, 839, 840, 841, 213, 1716] (by decide +kernel)
set_option maxRecDepth 100000 in
theorem pl_wsL_law0_r27 : ∀ w ∈ wsL_law0_r27, w ∈ lw_tbl := mem_pos [1717, 1718, 1719, 1415, 1720, 1721, 1722, 842, 843, 844, 845, 210, 226, 231, 846, 848, 10, 849, 850, 851, 852, 853, 854, 855] (by decide +kernel)
set_option maxRecDepth 100000 in
theorem pl_wsL_law0_r28 : ∀ w ∈ wsL_law0_r28, w ∈ lw_tbl := mem_pos [856, 857, 858, 859, 860, 218, 239, 221, 862, 863, 864, 865, 866, 868, 11, 869, 873, 874, 870, 871, 872, 1723, 1724, 1725] (by decide +kernel)
set_option maxRecDepth 100000 in
theorem pl_wsL_law0_r29 : ∀ w ∈ wsL_law0_r29, w ∈ lw_tbl := mem_pos [1726, 1727, 1729, 49, 1730, 1731, 1733, 50, 1734, 1735, 1737, 51, 1738, 1416, 1739, 1741, 52, 1742, 1743, 1745, 53, 1746, 1747, 1748] (by decide +kernel)
set_option maxRecDepth 100000 in
theorem pl_wsL_law0_r30 : ∀ w ∈ wsL_law0_r30, w ∈ lw_tbl := mem_pos [875, 876, 877, 878, 882, 883, 884, 885, 894, 896, 12, 897, 212, 208, 921, 922, 923, 1749, 1750, 1751, 1752, 1767, 1753, 1755] (by decide +kernel)
set_option maxRecDepth 100000 in
theorem pl_wsL_law0_r31 : ∀ w ∈ wsL_law0_r31, w ∈ lw_tbl := mem_pos [54, 1756, 1757, 1758, 1759, 1760, 1762, 55, 1763, 1764, 1765, 1766, 924, 925, 926, 927, 928, 929, 1768, 1769, 1770, 1771, 1772, 1773] (by decide +kernel)
set_option maxRecDepth 100000 in
theorem pl_wsL_law0_r32 : ∀ w ∈ wsL_law0_r32, w ∈ lw_tbl := mem_pos [930, 931, 932, 933, 934, 935, 291, 936, 937, 938, 939, 290, 183, 940, 1774, 1775, 1776, 1777, 1422, 1778, 1779, 941, 942, 943] (by decide +kernel)
set_option maxRecDepth 100000 in
theorem pl_wsL_law0_r33 : ∀ w ∈ wsL_law0_r33, w ∈ lw_tbl := mem_pos [944, 289, 299, 303, 945, 946, 947, 948, 949, 950, 951, 952, 306, 217, 307, 220, 294, 953, 955, 957, 13, 958, 225, 230] (by decide +kernel)
set_option maxRecDepth 100000 in
theorem pl_wsL_law0_r34 : ∀ w ∈ wsL_law0_r34, w ∈ lw_tbl := mem_pos [965, 966, 959, 960, 961, 962, 207, 963, 1780, 1781, 1782, 1783, 1423, 1424, 1784, 1786, 56, 1787, 1788, 1790, 57, 1791, 1792, 1794] (by decide +kernel)
set_option maxRecDepth 100000 in
theorem pl_wsL_law0_r35 : ∀ w ∈ wsL_law0_r35, w ∈ lw_tbl := mem_pos [58, 1795, 1796, 1798, 59, 1799, 1800, 1802, 60, 1803, 1804, 1806, 61, 1807, 967, 968, 969, 970, 971, 972, 973, 974, 976, 977] (by decide +kernel)
set_option maxRecDepth 100000 in
theorem pl_wsL_law0_r36 : ∀ w ∈ wsL_law0_r36, w ∈ lw_tbl := mem_pos [978, 979, 980, 1808, 1809, 1810, 1811, 981, 982, 983, 984, 342, 344, 985, 986, 987, 988, 292, 297, 341, 301, 343, 989, 990] (by decide +kernel)
set_option maxRecDepth 100000 in
theorem pl_wsL_law0_r37 : ∀ w ∈ wsL_law0_r37, w ∈ lw_tbl := mem_pos [1812, 1813, 1814, 1815, 1425, 1426, 1427, 1816, 1818, 62, 1819, 991, 992, 993, 994, 995, 996, 997, 998, 287, 999, 1000, 1001, 1002] (by decide +kernel)
set_option maxRecDepth 100000 in
theorem pl_wsL_law0_r38 : ∀ w ∈ wsL_law0_r38, w ∈ lw_tbl := mem_pos [1003, 1004, 1005, 1006, 1007, 1008, 1820, 1821, 1822, 1823, 1824, 1826, 63, 1827, 1828, 1830, 64, 1831, 1832, 1833, 1835, 65, 1836, 1009] (by decide +kernel)
set_option maxRecDepth 100000 in
theorem pl_wsL_law0_r39 : ∀ w ∈ wsL_law0_r39, w ∈ lw_tbl := mem_pos [1010, 1011, 1012, 396, 398, 1013, 1014, 1015, 1016, 395, 397, 293, 223, 228, 298, 1019, 302, 1020, 1017, 1842, 1843, 1844, 1845, 1022] (by decide +kernel)
set_option maxRecDepth 100000 in
theorem pl_wsL_law0_r40 : ∀ w ∈ wsL_law0_r40, w ∈ lw_tbl := mem_pos [1023, 1024, 1025, 1026, 1027, 1028, 1029, 403, 404, 216, 405, 1030, 1032, 14, 1033, 1034, 1036, 15, 1037, 1038, 1040, 16, 1041, 1846] (by decide +kernel)
set_option maxRecDepth 100000 in
theorem pl_wsL_law0_r41 : ∀ w ∈ wsL_law0_r41, w ∈ lw_tbl := mem_pos [1847, 1848, 1849, 1850, 1851, 1852, 1853, 1854, 110, 1855, 1856, 1857, 1858, 1859, 1861, 66, 1862, 1042, 1043, 1044, 1045, 432, 1046, 1047] (by decide +kernel)
set_option maxRecDepth 100000 in
theorem pl_wsL_law0_r42 : ∀ w ∈ wsL_law0_r42, w ∈ lw_tbl := mem_pos [1048, 1049, 431, 1863, 1864, 1865, 1866, 1440, 1050, 1051, 1052, 1053, 1054, 1055, 1056, 1057, 1058, 1059, 1060, 1061, 1062, 1063, 1064, 1065] (by decide +kernel)
set_option maxRecDepth 100000 in
theorem pl_wsL_law0_r43 : ∀ w ∈ wsL_law0_r43, w ∈ lw_tbl := mem_pos [224, 229, 1066, 1067, 1068, 1069, 1070, 1867, 1868, 1869, 1870, 1871, 1873, 67, 1874, 1875, 1877, 68, 1878, 1071, 1072, 1073, 1074, 215] (by decide +kernel)
set_option maxRecDepth 100000 in
theorem pl_wsL_law0_r44 : ∀ w ∈ wsL_law0_r44, w ∈ lw_tbl := mem_pos [1075, 1879, 1880, 1881, 1882, 1417, 1076, 1077, 1078, 1079, 1080, 1081, 1082, 1083, 1084, 1883, 1884, 1885, 1886, 1887, 1889, 69, 1890, 1891] (by decide +kernel)
set_option maxRecDepth 100000 in
theorem pl_wsL_law0_r45 : ∀ w ∈ wsL_law0_r45, w ∈ lw_tbl := mem_pos [1893, 70, 1894, 1086, 1087, 1088, 1089, 1090, 1091, 1092, 1093, 1094, 1895, 1896, 1897, 1898, 1095, 1096, 1097, 1098, 434, 436, 1099, 1100] (by decide +kernel)
set_option maxRecDepth 100000 in
theorem pl_wsL_law0_r46 : ∀ w ∈ wsL_law0_r46, w ∈ lw_tbl := mem_pos [1101, 1102, 450, 451, 219, 1103, 1105, 17, 1106, 1107, 1108, 1109, 1110, 435, 452, 433, 1111, 1113, 18, 1114, 1115, 1117, 19, 1118] (by decide +kernel)
set_option maxRecDepth 100000 in
theorem pl_wsL_law0_r47 : ∀ w ∈ wsL_law0_r47, w ∈ lw_tbl := mem_pos [1120, 1121, 1119, 1899, 1900, 1901, 1902, 1903, 1905, 71, 1906, 1907, 1909, 72, 1910, 1122, 1123, 1124, 1125, 1126, 1127, 1128, 1129, 1130] (by decide +kernel)
set_option maxRecDepth 100000 in
theorem pl_wsL_law0_r48 : ∀ w ∈ wsL_law0_r48, w ∈ lw_tbl := mem_pos [1131, 1132, 1133, 1911, 1912, 1913, 1914, 1134, 1135, 1136, 1137, 1138, 1915, 1916, 1917, 1918, 1139, 1140, 1141, 1142, 350, 346, 348, 1143] (by decide +kernel)
set_option maxRecDepth 100000 in
theorem pl_wsL_law0_r49 : ∀ w ∈ wsL_law0_r49, w ∈ lw_tbl := mem_pos [1144, 1145, 1146, 345, 347, 349, 1147, 1149, 20, 1150, 1151, 1153, 21, 1154, 1155, 1157, 22, 1158, 1159, 1160, 1919, 1920, 1921, 1922] (by decide +kernel)
set_option maxRecDepth 100000 in
theorem pl_wsL_law0_r50 : ∀ w ∈ wsL_law0_r50, w ∈ lw_tbl := mem_pos [1923, 1925, 73, 1926, 1927, 1929, 74, 1930, 1931, 1933, 75, 1934, 1161, 1162, 1163, 1164, 352, 354, 1165, 1166, 1167, 1168, 353, 1169] (by decide +kernel)
set_option maxRecDepth 100000 in
theorem pl_wsL_law0_r51 : ∀ w ∈ wsL_law0_r51, w ∈ lw_tbl := mem_pos [351, 1935, 1936, 1937, 1938, 1841, 1939, 1170, 1171, 1172, 1173, 500, 1940, 1941, 1942, 1943, 1451, 1174, 1175, 1176, 1177, 504, 502, 1178] (by decide +kernel)
set_option maxRecDepth 100000 in
theorem pl_wsL_law0_r52 : ∀ w ∈ wsL_law0_r52, w ∈ lw_tbl := mem_pos [1179, 1180, 1181, 499, 1182, 1183, 1184, 1185, 503, 501, 1186, 1188, 23, 1189, 523, 1190, 1191, 1192, 1193, 1194, 1195, 1196, 1198, 24] (by decide +kernel)
set_option maxRecDepth 100000 in
theorem pl_wsL_law0_r53 : ∀ w ∈ wsL_law0_r53, w ∈ lw_tbl := mem_pos [1199, 526, 1200, 1201, 1202, 1203, 1204, 1944, 1945, 1946, 1947, 1453, 1452, 1948, 1950, 76, 1951, 1205, 1206, 1207, 1208, 1209, 1210, 1211] (by decide +kernel)
set_option maxRecDepth 100000 in
theorem pl_wsL_law0_r54 : ∀ w ∈ wsL_law0_r54, w ∈ lw_tbl := mem_pos [1212, 1952, 1953, 1954, 1955, 1213, 1214, 1215, 1216, 507, 1217, 1218, 1219, 1220, 506, 1956, 1957, 1958, 1959, 1454, 1221, 1222, 1223, 1224] (by decide +kernel)
set_option maxRecDepth 100000 in
theorem pl_wsL_law0_r55 : ∀ w ∈ wsL_law0_r55, w ∈ lw_tbl := mem_pos [1225, 1226, 1227, 1228, 1241, 1229, 1230, 1231, 1232, 1233, 1234, 1235, 1236, 1237, 1239, 25, 1240, 1242, 1243, 1244, 1960, 1961, 1962, 1963] (by decide +kernel)
set_option maxRecDepth 100000 in
theorem pl_wsL_law0_r56 : ∀ w ∈ wsL_law0_r56, w ∈ lw_tbl := mem_pos [1964, 1966, 77, 1967, 1968, 1970, 78, 1971, 1972, 1974, 79, 1975, 1976, 1978, 80, 1979, 1245, 1246, 1247, 1248, 1249, 1250, 1251, 1252] (by decide +kernel)
set_option maxRecDepth 100000 in
theorem pl_wsL_law0_r57 : ∀ w ∈ wsL_law0_r57, w ∈ lw_tbl := mem_pos [509, 498, 1253, 1254, 1255, 1256, 1257, 1980, 1981, 1982, 1983, 1984, 1986, 81, 1987, 1988, 1990, 82, 1991, 1258, 1259, 1260, 1261, 571] (by decide +kernel)
set_option maxRecDepth 100000 in
theorem pl_wsL_law0_r58 : ∀ w ∈ wsL_law0_r58, w ∈ lw_tbl := mem_pos [573, 575, 577, 1262, 1263, 1264, 1265, 570, 572, 574, 576, 522, 1266, 1268, 26, 1269, 1270, 1271, 1273, 27, 1274, 515, 505, 1276] (by decide +kernel)
set_option maxRecDepth 100000 in
theorem pl_wsL_law0_r59 : ∀ w ∈ wsL_law0_r59, w ∈ lw_tbl := mem_pos [1278, 28, 1279, 513, 511, 1280, 1281, 1283, 29, 1284, 1992, 1993, 1994, 1995, 1996, 1998, 83, 1999, 1285, 1286, 1287, 1288, 1289, 1290] (by decide +kernel)
set_option maxRecDepth 100000 in
theorem pl_wsL_law0_r60 : ∀ w ∈ wsL_law0_r60, w ∈ lw_tbl := mem_pos [1291, 1292, 1293, 1294, 1295, 1296, 1837, 1838, 1839, 1840, 1297, 1298, 1299, 1300, 295, 1301, 1302, 1303, 1304, 1305, 2000, 2001, 2002, 2003] (by decide +kernel)
set_option maxRecDepth 100000 in
theorem pl_wsL_law0_r61 : ∀ w ∈ wsL_law0_r61, w ∈ lw_tbl := mem_pos [1306, 1307, 1308, 1309, 186, 2004, 2005, 2006, 2007] (by decide +kernel)
set_option maxRecDepth 100000 in
theorem inX0 : ∀ w ∈ wsX00, w ∈ lw_tbl := mem_pos [406, 408, 410, 412, 414, 416, 418, 420, 422] (by decide +kernel)
set_option maxRecDepth 100000 in
theorem inX1 : ∀ w ∈ wsX10, w ∈ lw_tbl := mem_pos [361, 363, 365, 367, 369, 371, 373, 375, 377, 379, 381, 383, 385] (by decide +kernel)
set_option maxRecDepth 100000 in
theorem inX2 : ∀ w ∈ wsX20, w ∈ lw_tbl := mem_pos [527, 529, 531, 533, 535, 537, 539, 541, 543, 545, 547, 549, 551, 553, 555, 557, 559, 561] (by decide +kernel)
set_option maxRecDepth 100000 in
theorem inX3 : ∀ w ∈ wsX30, w ∈ lw_tbl := mem_pos [453, 455, 457, 459, 461, 463, 465, 467, 469, 471, 473, 475, 477, 479, 481, 483, 485, 487, 489] (by decide +kernel)
set_option maxRecDepth 100000 in
theorem inX4 : ∀ w ∈ wsX40, w ∈ lw_tbl := mem_pos [581, 583, 585, 587, 589, 591, 593] (by decide +kernel)
set_option maxRecDepth 100000 in
theorem inX5 : ∀ w ∈ wsX50, w ∈ lw_tbl := mem_pos [148, 150, 152, 154, 156] (by decide +kernel)
set_option maxRecDepth 100000 in
theorem inX6 : ∀ w ∈ wsX60, w ∈ lw_tbl := mem_pos [240, 242, 244, 246, 248, 250, 252, 254, 256, 258, 260, 262, 264, 266, 268, 270, 272] (by decide +kernel)
set_option maxRecDepth 100000 in
theorem inX7 : ∀ w ∈ wsX70, w ∈ lw_tbl := mem_pos [310, 312, 314, 316, 318, 320, 322, 324, 326, 328, 330, 332] (by decide +kernel)
set_option maxRecDepth 100000 in
theorem inX8 : ∀ w ∈ wsX80, w ∈ lw_tbl := mem_pos [187, 189, 191, 193, 195] (by decide +kernel)
set_option maxRecDepth 100000 in
theorem inX9 : ∀ w ∈ wsX90, w ∈ lw_tbl := mem_pos [130, 132] (by decide +kernel)
set_option maxRecDepth 100000 in
theorem inX10 : ∀ w ∈ wsX100, w ∈ lw_tbl := mem_pos [819] (by decide +kernel)
set_option maxRecDepth 100000 in
theorem inX11 : ∀ w ∈ wsX110, w ∈ lw_tbl := mem_pos [609, 611, 613, 615, 617, 619, 621, 623, 625, 627, 629, 631, 633] (by decide +kernel)
set_option maxRecDepth 100000 in
theorem inX12 : ∀ w ∈ wsX120, w ∈ lw_tbl := mem_pos [1455, 1457, 1459, 1461, 1463, 1465, 1467, 1469, 1471, 1473, 1475, 1477, 1479, 1481, 1483, 1485, 1487, 1489, 1491, 1493, 1495, 1497, 1499, 1501, 1503, 1505, 1507, 1509, 1511, 1513, 1515, 1517, 1519, 1521, 1523, 1525, 1527, 1529, 1531, 1533, 1535, 1537, 1539, 1541, 1543, 1545, 1547, 1549, 1551, 1553, 1555, 1557, 1559, 1561, 1563, 1565, 1567, 1569, 1571, 1573, 1575, 1577, 1579, 1581, 1583, 1585, 1587, 1589, 1591] (by decide +kernel)
theorem wsL_law_in0 : ∀ w ∈ wsL_law0, w ∈ lw_tbl := fun w h => (List.mem_append.mp h).elim (fun h => (List.mem_append.mp h).elim (fun h => (List.mem_append.mp h).elim (fun h => (List.mem_append.mp h).elim (fun h => (List.mem_append.mp h).elim (fun h => (List.mem_append.mp h).elim (fun h => (List.mem_append.mp h).elim (fun h => (List.mem_append.mp h).elim (fun h => (List.mem_append.mp h).elim (fun h => (List.mem_append.mp h).elim (fun h => (List.mem_append.mp h).elim (fun h => (List.mem_append.mp h).elim (fun h => (List.mem_append.mp h).elim (fun h => (List.mem_append.mp h).elim (fun h => (List.mem_append.mp h).elim (fun h => pl_wsL_law0_r1 w h) (fun h => (List.mem_append.mp h).elim (fun h => pl_wsL_law0_r2 w h) (fun h => (List.mem_append.mp h).elim (fun h => pl_wsL_law0_r3 w h) (fun h => (List.mem_append.mp h).elim (fun h => pl_wsL_law0_r4 w h) (fun h => (List.mem_append.mp h).elim (fun h => pl_wsL_law0_r5 w h) (fun h => (List.mem_append.mp h).elim (fun h => pl_wsL_law0_r6 w h) (fun h => (List.mem_append.mp h).elim (fun h => pl_wsL_law0_r7 w h) (fun h => (List.mem_append.mp h).elim (fun h => pl_wsL_law0_r8 w h) (fun h => (List.mem_append.mp h).elim (fun h => pl_wsL_law0_r9 w h) (fun h => (List.mem_append.mp h).elim (fun h => pl_wsL_law0_r10 w h) (fun h => (List.mem_append.mp h).elim (fun h => pl_wsL_law0_r11 w h) (fun h => (List.mem_append.mp h).elim (fun h => pl_wsL_law0_r12 w h) (fun h => (List.mem_append.mp h).elim (fun h => pl_wsL_law0_r13 w h) (fun h => (List.mem_append.mp h).elim (fun h => pl_wsL_law0_r14 w h) (fun h => (List.mem_append.mp h).elim (fun h => pl_wsL_law0_r15 w h) (fun h => (List.mem_append.mp h).elim (fun h => pl_wsL_law0_r16 w h) (fun h => (List.mem_append.mp h).elim (fun h => pl_wsL_law0_r17 w h) (fun h => (List.mem_append.mp h).elim (fun h => pl_wsL_law0_r18 w h) (fun h => (List.mem_append.mp h).elim (fun h => pl_wsL_law0_r19 w h) (fun h => (List.mem_append.mp h).elim (fun h => pl_wsL_law0_r20 w h) (fun h => (List.mem_append.mp h).elim (fun h => pl_wsL_law0_r21 w h) (fun h => (List.mem_append.mp h).elim (fun h => pl_wsL_law0_r22 w h) (fun h => (List.mem_append.mp h).elim (fun h => pl_wsL_law0_r23 w h) (fun h => (List.mem_append.mp h).elim (fun h => pl_wsL_law0_r24 w h) (fun h => (List.mem_append.mp h).elim (fun h => pl_wsL_law0_r25 w h) (fun h => (List.mem_append.mp h).elim (fun h => pl_wsL_law0_r26 w h) (fun h => (List.mem_append.mp h).elim (fun h => pl_wsL_law0_r27 w h) (fun h => (List.mem_append.mp h).elim (fun h => pl_wsL_law0_r28 w h) (fun h => (List.mem_append.mp h).elim (fun h => pl_wsL_law0_r29 w h) (fun h => (List.mem_append.mp h).elim (fun h => pl_wsL_law0_r30 w h) (fun h => (List.mem_append.mp h).elim (fun h => pl_wsL_law0_r31 w h) (fun h => (List.mem_append.mp h).elim (fun h => pl_wsL_law0_r32 w h) (fun h => (List.mem_append.mp h).elim (fun h => pl_wsL_law0_r33 w h) (fun h => (List.mem_append.mp h).elim (fun h => pl_wsL_law0_r34 w h) (fun h => (List.mem_append.mp h).elim (fun h => pl_wsL_law0_r35 w h) (fun h => (List.mem_append.mp h).elim (fun h => pl_wsL_law0_r36 w h) (fun h => (List.mem_append.mp h).elim (fun h => pl_wsL_law0_r37 w h) (fun h => (List.mem_append.mp h).elim (fun h => pl_wsL_law0_r38 w h) (fun h => (List.mem_append.mp h).elim (fun h => pl_wsL_law0_r39 w h) (fun h => (List.mem_append.mp h).elim (fun h => pl_wsL_law0_r40 w h) (fun h => (List.mem_append.mp h).elim (fun h => pl_wsL_law0_r41 w h) (fun h => (List.mem_append.mp h).elim (fun h => pl_wsL_law0_r42 w h) (fun h => (List.mem_append.mp h).elim (fun h => pl_wsL_law0_r43 w h) (fun h => (List.mem_append.mp h).elim (fun h => pl_wsL_law0_r44 w h) (fun h => (List.mem_append.mp h).elim (fun h => pl_wsL_law0_r45 w h) (fun h => (List.mem_append.mp h).elim (fun h => pl_wsL_law0_r46 w h) (fun h => (List.mem_append.mp h).elim (fun h => pl_wsL_law0_r47 w h) (fun h => (List.mem_append.mp h).elim (fun h => pl_wsL_law0_r48 w h) (fun h => (List.mem_append.mp h).elim (fun h => pl_wsL_law0_r49 w h) (fun h => (List.mem_append.mp h).elim (fun h => pl_wsL_law0_r50 w h) (fun h => (List.mem_append.mp h).elim (fun h => pl_wsL_law0_r51 w h) (fun h => (List.mem_append.mp h).elim (fun h => pl_wsL_law0_r52 w h) (fun h => (List.mem_append.mp h).elim (fun h => pl_wsL_law0_r53 w h) (fun h => (List.mem_append.mp h).elim (fun h => pl_wsL_law0_r54 w h) (fun h => (List.mem_append.mp h).elim (fun h => pl_wsL_law0_r55 w h) (fun h => (List.mem_append.mp h).elim (fun h => pl_wsL_law0_r56 w h) (fun h => (List.mem_append.mp h).elim (fun h => pl_wsL_law0_r57 w h) (fun h => (List.mem_append.mp h).elim (fun h => pl_wsL_law0_r58 w h) (fun h => (List.mem_append.mp h).elim (fun h => pl_wsL_law0_r59 w h) (fun h => (List.mem_append.mp h).elim (fun h => pl_wsL_law0_r60 w h) (fun h => pl_wsL_law0_r61 w h))))))))))))))))))))))))))))))))))))))))))))))))))))))))))))) (fun h => inX11 w h)) (fun h => inX12 w h)) (fun h => inX9 w h)) (fun h => inX5 w h)) (fun h => inX8 w h)) (fun h => inX6 w h)) (fun h => inX7 w h)) (fun h => inX1 w h)) (fun h => inX0 w h)) (fun h => inX3 w h)) (fun h => inX2 w h)) (fun h => inX4 w h)) (fun h => inX10 w h)) (fun h => absurd h List.not_mem_nil)
theorem wsL_law_x0 : ∀ w ∈ (vx_at0 RX11 156 "java/util/NoSuchElementException" ["java/lang/RuntimeException", "java/lang/Exception"]).filter goodWord, w ∈ lw_tbl := by decide +kernel
theorem wsL_law_in : ∀ w ∈ wsL_law, w ∈ lw_tbl := fun w h => (List.mem_append.mp h).elim (fun h => wsL_law_in0 w h) (fun h => wsL_law_x0 w h)
