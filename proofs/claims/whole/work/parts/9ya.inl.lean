/-! the words GW are among the tables' words -/
theorem tl_of {ws : List Cond} (ps : List Nat) (hp : ws = ps.filterMap (fun i => lw_tbl[i]?)) : ∀ w ∈ ws, w ∈ lw_tbl := by
  intro w hw
  rw [hp] at hw
  obtain ⟨i, -, hi⟩ := List.mem_filterMap.mp hw
  exact List.mem_of_getElem? hi
theorem tL0 : ∀ w ∈ gR0, w ∈ lw_tbl := tl_of [127, 128, 107, 1131, 1132, 119, 1873, 129, 130, 131, 132, 133, 134, 135, 523, 137, 524, 525, 139, 140, 108, 526, 213, 214] (by decide +kernel)
theorem tL1 : ∀ w ∈ gR1, w ∈ lw_tbl := tl_of [109, 527, 234, 235, 110, 528, 251, 252, 111, 529, 278, 279, 112, 530, 211, 531, 533, 535, 536, 538, 539, 301, 113, 464] (by decide +kernel)
theorem tL2 : ∀ w ∈ gR2, w ∈ lw_tbl := tl_of [118, 142, 143, 144, 145, 147, 149, 151, 152, 153, 212, 154, 155, 159, 169, 170, 171, 216, 217, 218, 219, 220, 221, 222] (by decide +kernel)
theorem tL3 : ∀ w ∈ gR3, w ∈ lw_tbl := tl_of [237, 238, 239, 240, 254, 255, 256, 257, 259, 261, 262, 263, 264, 281, 282, 283, 284, 286, 287, 288, 289, 302, 303, 304] (by decide +kernel)
theorem tL4 : ∀ w ∈ gR4, w ∈ lw_tbl := tl_of [305, 397, 306, 307, 114, 399, 371, 372, 116, 401, 403, 408, 411, 414, 416, 419, 422, 395, 308, 309, 310, 311, 312, 355] (by decide +kernel)
theorem tL5 : ∀ w ∈ gR5, w ∈ lw_tbl := tl_of [314, 115, 316, 317, 318, 319, 374, 375, 376, 377, 378, 379, 380, 392, 393, 117, 394, 466, 467, 468, 469, 472, 476, 478] (by decide +kernel)
theorem tL6 : ∀ w ∈ gR6, w ∈ lw_tbl := tl_of [480, 484, 492, 1133, 1134, 1135, 1136, 1152, 1153, 1154, 1157, 1158, 1159, 1160, 1161, 1162, 1163, 1164, 1165, 1166, 1167, 1168, 1170, 1171] (by decide +kernel)
theorem tL7 : ∀ w ∈ gR7, w ∈ lw_tbl := tl_of [1172, 1173, 1174, 1175, 1176, 1177, 1178, 1179, 1473, 1180, 1181, 1182, 1183, 1184, 1185, 1186, 1187, 1188, 1189, 1190, 1191, 1192, 1193, 1194] (by decide +kernel)
theorem tL8 : ∀ w ∈ gR8, w ∈ lw_tbl := tl_of [1195, 1196, 1197, 1198, 1199, 1200, 1201, 1202, 1203, 1204, 1205, 1206, 1207, 1210, 1212, 1215, 1220, 1221, 1222, 1223, 1224, 1225, 1227, 1228] (by decide +kernel)
theorem tL9 : ∀ w ∈ gR9, w ∈ lw_tbl := tl_of [1229, 1230, 1231, 1137, 1232, 1233, 1234, 1235, 1236, 1237, 1238, 1239, 1240, 1242, 1243, 1244, 1246, 1247, 1249, 1250, 1251, 1252, 1253, 1254] (by decide +kernel)
theorem tL10 : ∀ w ∈ gR10, w ∈ lw_tbl := tl_of [1255, 1256, 1257, 1138, 1140, 41, 1141, 1142, 1143, 1144, 1145, 1146, 1147, 1148, 1149, 1150, 575, 576, 577, 578, 532, 579, 581, 0] (by decide +kernel)
theorem tL11 : ∀ w ∈ gR11, w ∈ lw_tbl := tl_of [582, 583, 584, 120, 585, 1474, 1475, 1476, 1477, 1151, 1169, 1478, 1480, 42, 1481, 586, 587, 588, 589, 1482, 1483, 1484, 1485, 590] (by decide +kernel)
theorem tL12 : ∀ w ∈ gR12, w ∈ lw_tbl := tl_of [591, 592, 593, 1486, 1487, 1488, 1489, 1490, 1491, 1492, 1493, 594, 595, 596, 597, 598, 599, 600, 601, 602, 603, 604, 1494, 1495] (by decide +kernel)
theorem tL13 : ∀ w ∈ gR13, w ∈ lw_tbl := tl_of [1496, 1497, 1498, 1499, 1500, 1501, 606, 607, 608, 609, 150, 148, 617, 619, 618, 122, 610, 611, 612, 613, 156, 614, 615, 121] (by decide +kernel)
theorem tL14 : ∀ w ∈ gR14, w ∈ lw_tbl := tl_of [616, 1528, 1529, 1530, 1531, 1217, 1532, 1534, 43, 1535, 620, 621, 622, 623, 1502, 1503, 1504, 1505, 624, 625, 626, 627, 473, 628] (by decide +kernel)
theorem tL15 : ∀ w ∈ gR15, w ∈ lw_tbl := tl_of [629, 630, 631, 632, 633, 1506, 1507, 1508, 1509, 1510, 1511, 1512, 1513, 1514, 1515, 1516, 634, 635, 636, 637, 1517, 1518, 1519, 1520] (by decide +kernel)
theorem tL16 : ∀ w ∈ gR16, w ∈ lw_tbl := tl_of [638, 639, 640, 641, 398, 642, 643, 644, 1521, 1522, 1523, 1524, 1525, 1526, 1527, 645, 646, 647, 648, 1536, 1537, 1538, 1539, 1540] (by decide +kernel)
theorem tL17 : ∀ w ∈ gR17, w ∈ lw_tbl := tl_of [649, 650, 651, 652, 1541, 1542, 1543, 1544, 1545, 653, 654, 655, 656, 243, 657, 658, 659, 660, 242, 241, 1546, 1547, 1548, 1549] (by decide +kernel)
theorem tL18 : ∀ w ∈ gR18, w ∈ lw_tbl := tl_of [1209, 1208, 1550, 661, 662, 663, 664, 166, 173, 665, 666, 667, 668, 172, 1551, 1552, 1553, 1554, 1241, 1214, 1555, 669, 670, 671] (by decide +kernel)
theorem tL19 : ∀ w ∈ gR19, w ∈ lw_tbl := tl_of [672, 224, 673, 674, 675, 676, 223, 677, 1556, 1557, 1558, 1559, 1245, 678, 679, 680, 681, 471, 682, 683, 684, 685, 474, 486] (by decide +kernel)
theorem tL20 : ∀ w ∈ gR20, w ∈ lw_tbl := tl_of [686, 688, 1, 689, 320, 322, 690, 692, 2, 693, 400, 359, 324, 326, 328, 330, 332, 335, 409, 407, 694, 695, 696, 697] (by decide +kernel)
theorem tL21 : ∀ w ∈ gR21, w ∈ lw_tbl := tl_of [358, 356, 360, 333, 698, 699, 700, 701, 702, 703, 704, 705, 706, 707, 708, 709, 710, 1560, 1561, 1562, 1563, 1213, 1564, 1566] (by decide +kernel)
theorem tL22 : ∀ w ∈ gR22, w ∈ lw_tbl := tl_of [44, 1567, 1568, 1570, 45, 1571, 1572, 1574, 46, 1575, 1576, 1578, 47, 1579, 1580, 1582, 48, 1583, 1584, 1586, 49, 1587, 711, 712] (by decide +kernel)
theorem tL23 : ∀ w ∈ gR23, w ∈ lw_tbl := tl_of [713, 714, 1588, 1589, 1590, 1591, 1592, 1594, 50, 1595, 715, 716, 717, 718, 534, 719, 721, 3, 722, 470, 723, 725, 4, 726] (by decide +kernel)
theorem tL24 : ∀ w ∈ gR24, w ∈ lw_tbl := tl_of [727, 728, 729, 730, 732, 1596, 1597, 1598, 1599, 1211, 1600, 1602, 51, 1603, 733, 734, 735, 736, 158, 737, 739, 5, 740, 161] (by decide +kernel)
theorem tL25 : ∀ w ∈ gR25, w ∈ lw_tbl := tl_of [412, 741, 742, 743, 744, 745, 746, 121, 747, 748, 749, 750, 751, 164, 167, 752, 754, 6, 755, 413, 756, 757, 758, 759] (by decide +kernel)
theorem tL26 : ∀ w ∈ gR26, w ∈ lw_tbl := tl_of [760, 762, 7, 763, 415, 396, 417, 418, 764, 765, 766, 767, 768, 772, 773, 157, 160, 769, 770, 771, 774, 776, 8, 777] (by decide +kernel)
theorem tL27 : ∀ w ∈ gR27, w ∈ lw_tbl := tl_of [424, 423, 778, 779, 780, 781, 782, 784, 9, 785, 410, 421, 786, 787, 788, 789, 790, 792, 10, 793, 794, 485, 481, 795] (by decide +kernel)
theorem tL28 : ∀ w ∈ gR28, w ∈ lw_tbl := tl_of [796, 797, 323, 325, 327, 334, 798, 799, 800, 331, 321, 329, 801, 802, 803, 804, 805, 806, 807, 808, 809, 810, 815, 811] (by decide +kernel)
theorem tL29 : ∀ w ∈ gR29, w ∈ lw_tbl := tl_of [813, 11, 814, 816, 818, 820, 12, 821, 822, 823, 824, 825, 827, 13, 828, 829, 830, 831, 832, 834, 14, 835, 836, 837] (by decide +kernel)
theorem tL30 : ∀ w ∈ gR30, w ∈ lw_tbl := tl_of [838, 839, 357, 840, 841, 842, 843, 165, 844, 845, 847, 15, 848, 849, 850, 851, 852, 853, 855, 16, 856, 857, 859, 17] (by decide +kernel)
theorem tL31 : ∀ w ∈ gR31, w ∈ lw_tbl := tl_of [860, 861, 863, 18, 864, 420, 865, 866, 867, 868, 162, 869, 871, 19, 872, 873, 874, 875, 876, 877, 878, 879, 880, 881] (by decide +kernel)
theorem tL32 : ∀ w ∈ gR32, w ∈ lw_tbl := tl_of [882, 883, 884, 885, 886, 887, 888, 889, 890, 891, 892, 894, 895, 896, 897, 898, 900, 20, 901, 902, 903, 904, 905, 404] (by decide +kernel)
theorem tL33 : ∀ w ∈ gR33, w ∈ lw_tbl := tl_of [906, 908, 21, 909, 910, 912, 22, 913, 406, 483, 285, 487, 491, 493, 914, 915, 916, 917, 918, 919, 920, 921, 922, 923] (by decide +kernel)
theorem tL34 : ∀ w ∈ gR34, w ∈ lw_tbl := tl_of [924, 925, 926, 488, 489, 490, 927, 928, 929, 930, 931, 932, 933, 934, 936, 23, 937, 402, 938, 939, 940, 941, 381, 942] (by decide +kernel)
theorem tL35 : ∀ w ∈ gR35, w ∈ lw_tbl := tl_of [943, 945, 24, 946, 947, 949, 25, 950, 260, 477, 475, 951, 952, 953, 954, 956, 957, 958, 959, 960, 1011, 962, 963, 964] (by decide +kernel)
theorem tL36 : ∀ w ∈ gR36, w ∈ lw_tbl := tl_of [123, 965, 1874, 966, 967, 968, 969, 970, 1875, 972, 973, 974, 975, 976, 977, 978, 979, 980, 981, 124, 982, 983, 984, 985] (by decide +kernel)
theorem tL37 : ∀ w ∈ gR37, w ∈ lw_tbl := tl_of [986, 988, 989, 125, 990, 991, 992, 126, 993, 994, 995, 996, 997, 998, 999, 1000, 1001, 1002, 1003, 1004, 1006, 1008, 1012, 1013] (by decide +kernel)
theorem tL38 : ∀ w ∈ gR38, w ∈ lw_tbl := tl_of [1014, 1015, 1016, 1018, 26, 1019, 1020, 1022, 27, 1023, 1025, 1027, 1028, 1029, 1030, 1031, 1024, 1026, 1032, 1034, 28, 1035, 1036, 1038] (by decide +kernel)
theorem tL39 : ∀ w ∈ gR39, w ∈ lw_tbl := tl_of [29, 1039, 1040, 1041, 1042, 1043, 1044, 1046, 30, 1047, 258, 1048, 1049, 1050, 1051, 1052, 1053, 1054, 1056, 31, 1057, 1058, 1059, 1060] (by decide +kernel)
theorem tL40 : ∀ w ∈ gR40, w ∈ lw_tbl := tl_of [1061, 482, 1062, 1064, 32, 1065, 479, 1066, 1068, 33, 1069, 1070, 1072, 34, 1073, 1074, 1076, 35, 1077, 1078, 1080, 36, 1081, 1082] (by decide +kernel)
theorem tL41 : ∀ w ∈ gR41, w ∈ lw_tbl := tl_of [1084, 37, 1085, 1086, 1088, 38, 1089, 537, 1090, 1092, 39, 1093, 1604, 1605, 1606, 1607, 1608, 1609, 1611, 52, 1612, 1226, 1216, 1613] (by decide +kernel)
theorem tL42 : ∀ w ∈ gR42, w ∈ lw_tbl := tl_of [1615, 53, 1616, 1617, 1619, 54, 1620, 1621, 1623, 55, 1624, 1625, 1627, 56, 1628, 1629, 1631, 57, 1632, 1633, 1635, 58, 1636, 1637] (by decide +kernel)
theorem tL43 : ∀ w ∈ gR43, w ∈ lw_tbl := tl_of [1639, 59, 1640, 1641, 1643, 60, 1644, 1645, 1647, 61, 1648, 1649, 1650, 1651, 1652, 1654, 62, 1655, 1656, 1658, 63, 1659, 1660, 1662] (by decide +kernel)
theorem tL44 : ∀ w ∈ gR44, w ∈ lw_tbl := tl_of [64, 1663, 1664, 1666, 65, 1667, 1668, 1670, 66, 1671, 1672, 1674, 67, 1675, 1676, 1677, 1678, 1679, 1681, 68, 1682, 1683, 1685, 69] (by decide +kernel)
theorem tL45 : ∀ w ∈ gR45, w ∈ lw_tbl := tl_of [1686, 1687, 1689, 70, 1690, 1691, 1693, 71, 1694, 1695, 1697, 72, 1698, 1699, 1701, 73, 1702, 1248, 1218, 1703, 1705, 74, 1706, 1707] (by decide +kernel)
theorem tL46 : ∀ w ∈ gR46, w ∈ lw_tbl := tl_of [1709, 75, 1710, 1711, 1713, 76, 1714, 1715, 1717, 77, 1718, 1719, 1721, 78, 1722, 1723, 1725, 79, 1726, 1727, 1729, 80, 1730, 1731] (by decide +kernel)
theorem tL47 : ∀ w ∈ gR47, w ∈ lw_tbl := tl_of [1733, 81, 1734, 1735, 1737, 82, 1738, 1739, 1741, 83, 1742, 1743, 1745, 84, 1746, 1747, 1749, 85, 1750, 1751, 1752, 1753, 1754, 1755] (by decide +kernel)
theorem tL48 : ∀ w ∈ gR48, w ∈ lw_tbl := tl_of [1155, 1156, 1756, 1758, 86, 1759, 1763, 1764, 1765, 1766, 1760, 1761, 1762, 1767, 1769, 87, 1770, 1771, 1773, 88, 1774, 1775, 1777, 89] (by decide +kernel)
theorem tL49 : ∀ w ∈ gR49, w ∈ lw_tbl := tl_of [1778, 1779, 1781, 90, 1782, 1783, 1785, 91, 1786, 1787, 1789, 92, 1790, 1791, 1793, 93, 1794, 1795, 1797, 94, 1798, 1799, 1801, 95] (by decide +kernel)
theorem tL50 : ∀ w ∈ gR50, w ∈ lw_tbl := tl_of [1802, 1803, 1808, 1809, 1804, 1806, 96, 1807, 1810, 1812, 97, 1813, 1814, 1815, 1817, 98, 1818, 1819, 1821, 99, 1822, 1823, 1825, 100] (by decide +kernel)
theorem tL51 : ∀ w ∈ gR51, w ∈ lw_tbl := tl_of [1826, 1827, 1829, 101, 1830, 1831, 1833, 102, 1834, 1835, 1837, 103, 1838, 1839, 1841, 104, 1842, 1219, 1095, 1096, 1097, 1098, 1843, 1844] (by decide +kernel)
theorem tL52 : ∀ w ∈ gR52, w ∈ lw_tbl := tl_of [1845, 1846, 1099, 1100, 1101, 1102, 361, 382, 405, 1103, 1105, 40, 1106, 1847, 1848, 1849, 1850, 1851, 1853, 105, 1854, 1107, 1108, 1109] (by decide +kernel)
theorem tL53 : ∀ w ∈ gR53, w ∈ lw_tbl := tl_of [1110, 1855, 1856, 1857, 1858, 1111, 1112, 1113, 1114, 1115, 1116, 1117, 1118, 1859, 1860, 1861, 1862, 1863, 1864, 1119, 1120, 1121, 1122, 1123] (by decide +kernel)
theorem tL54 : ∀ w ∈ gR54, w ∈ lw_tbl := tl_of [1124, 1125, 1126, 1865, 1866, 1867, 1868, 1127, 1128, 1129, 1130, 163, 168, 1869, 1870, 1871, 1872] (by decide +kernel)
theorem tYX11 : ∀ w ∈ wsX110, w ∈ lw_tbl := tl_of [540, 542, 544, 546, 548, 550, 552, 554, 556, 558, 560, 562, 564, 566, 568, 570, 572] (by decide +kernel)
theorem tYX12 : ∀ w ∈ wsX120, w ∈ lw_tbl := tl_of [1258, 1260, 1262, 1264, 1266, 1268, 1270, 1272, 1274, 1276, 1278, 1280, 1282, 1284, 1286, 1288, 1290, 1292, 1294, 1296, 1298, 1300, 1302, 1304, 1306, 1308, 1310, 1312, 1314, 1316, 1318, 1320, 1322, 1324, 1326, 1328, 1330, 1332, 1334, 1336, 1338, 1340, 1342, 1344, 1346, 1348, 1350, 1352, 1354, 1356, 1358, 1360, 1362, 1364, 1366, 1368, 1370, 1372, 1374, 1376, 1378, 1380, 1382, 1384, 1386, 1388, 1390, 1392, 1394, 1396, 1398, 1400, 1402, 1404, 1406, 1408, 1410, 1412, 1414, 1416, 1418, 1420, 1422, 1424, 1426, 1428, 1430, 1432, 1434, 1436, 1438, 1440, 1442, 1444, 1446, 1448, 1450, 1452, 1454, 1456, 1458, 1460, 1462, 1464, 1466, 1468, 1470] (by decide +kernel)
theorem tYX5 : ∀ w ∈ wsX50, w ∈ lw_tbl := tl_of [174, 176, 178, 180, 182, 184, 186, 188, 190, 192, 194, 196, 198, 200, 202, 204, 206, 208] (by decide +kernel)
theorem tYX8 : ∀ w ∈ wsX80, w ∈ lw_tbl := tl_of [225, 227, 229, 231] (by decide +kernel)
theorem tYX1 : ∀ w ∈ wsX10, w ∈ lw_tbl := tl_of [244, 246, 248] (by decide +kernel)
theorem tYX10 : ∀ w ∈ wsX100, w ∈ lw_tbl := tl_of [265, 267, 269, 271, 273, 275] (by decide +kernel)
theorem tYX0 : ∀ w ∈ wsX00, w ∈ lw_tbl := tl_of [290, 292, 294, 296, 298] (by decide +kernel)
theorem tYX7 : ∀ w ∈ wsX70, w ∈ lw_tbl := tl_of [425, 427, 429, 431, 433, 435, 437, 439, 441, 443, 445, 447, 449, 451, 453, 455, 457, 459, 461] (by decide +kernel)
theorem tYX4 : ∀ w ∈ wsX40, w ∈ lw_tbl := tl_of [494, 496, 498, 500, 502, 504, 506, 508, 510, 512, 514, 516, 518, 520] (by decide +kernel)
theorem tYX9 : ∀ w ∈ wsX90, w ∈ lw_tbl := tl_of [362, 364, 366, 368] (by decide +kernel)
theorem tYX3 : ∀ w ∈ wsX30, w ∈ lw_tbl := tl_of [383, 385, 387, 389] (by decide +kernel)
theorem tYX6 : ∀ w ∈ wsX60, w ∈ lw_tbl := tl_of [336, 338, 340, 342, 344, 346, 348, 350, 352] (by decide +kernel)
theorem tY : ∀ w ∈ gY, w ∈ lw_tbl := List.forall_mem_append.mpr ⟨tYX11, List.forall_mem_append.mpr ⟨tYX12, List.forall_mem_append.mpr ⟨tYX5, List.forall_mem_append.mpr ⟨tYX8, List.forall_mem_append.mpr ⟨tYX1, List.forall_mem_append.mpr ⟨tYX10, List.forall_mem_append.mpr ⟨tYX0, List.forall_mem_append.mpr ⟨tYX7, List.forall_mem_append.mpr ⟨tYX4, List.forall_mem_append.mpr ⟨tYX9, List.forall_mem_append.mpr ⟨tYX3, tYX6⟩⟩⟩⟩⟩⟩⟩⟩⟩⟩⟩
theorem tG54 : ∀ w ∈ gG54, w ∈ lw_tbl := List.forall_mem_append.mpr ⟨tL54, tY⟩
theorem tG53 : ∀ w ∈ gG53, w ∈ lw_tbl := List.forall_mem_append.mpr ⟨tL53, tG54⟩
theorem tG52 : ∀ w ∈ gG52, w ∈ lw_tbl := List.forall_mem_append.mpr ⟨tL52, tG53⟩
theorem tG51 : ∀ w ∈ gG51, w ∈ lw_tbl := List.forall_mem_append.mpr ⟨tL51, tG52⟩
theorem tG50 : ∀ w ∈ gG50, w ∈ lw_tbl := List.forall_mem_append.mpr ⟨tL50, tG51⟩
theorem tG49 : ∀ w ∈ gG49, w ∈ lw_tbl := List.forall_mem_append.mpr ⟨tL49, tG50⟩
theorem tG48 : ∀ w ∈ gG48, w ∈ lw_tbl := List.forall_mem_append.mpr ⟨tL48, tG49⟩
theorem tG47 : ∀ w ∈ gG47, w ∈ lw_tbl := List.forall_mem_append.mpr ⟨tL47, tG48⟩
theorem tG46 : ∀ w ∈ gG46, w ∈ lw_tbl := List.forall_mem_append.mpr ⟨tL46, tG47⟩
theorem tG45 : ∀ w ∈ gG45, w ∈ lw_tbl := List.forall_mem_append.mpr ⟨tL45, tG46⟩
theorem tG44 : ∀ w ∈ gG44, w ∈ lw_tbl := List.forall_mem_append.mpr ⟨tL44, tG45⟩
theorem tG43 : ∀ w ∈ gG43, w ∈ lw_tbl := List.forall_mem_append.mpr ⟨tL43, tG44⟩
theorem tG42 : ∀ w ∈ gG42, w ∈ lw_tbl := List.forall_mem_append.mpr ⟨tL42, tG43⟩
theorem tG41 : ∀ w ∈ gG41, w ∈ lw_tbl := List.forall_mem_append.mpr ⟨tL41, tG42⟩
theorem tG40 : ∀ w ∈ gG40, w ∈ lw_tbl := List.forall_mem_append.mpr ⟨tL40, tG41⟩
theorem tG39 : ∀ w ∈ gG39, w ∈ lw_tbl := List.forall_mem_append.mpr ⟨tL39, tG40⟩
theorem tG38 : ∀ w ∈ gG38, w ∈ lw_tbl := List.forall_mem_append.mpr ⟨tL38, tG39⟩
theorem tG37 : ∀ w ∈ gG37, w ∈ lw_tbl := List.forall_mem_append.mpr ⟨tL37, tG38⟩
theorem tG36 : ∀ w ∈ gG36, w ∈ lw_tbl := List.forall_mem_append.mpr ⟨tL36, tG37⟩
theorem tG35 : ∀ w ∈ gG35, w ∈ lw_tbl := List.forall_mem_append.mpr ⟨tL35, tG36⟩
theorem tG34 : ∀ w ∈ gG34, w ∈ lw_tbl := List.forall_mem_append.mpr ⟨tL34, tG35⟩
theorem tG33 : ∀ w ∈ gG33, w ∈ lw_tbl := List.forall_mem_append.mpr ⟨tL33, tG34⟩
theorem tG32 : ∀ w ∈ gG32, w ∈ lw_tbl := List.forall_mem_append.mpr ⟨tL32, tG33⟩
theorem tG31 : ∀ w ∈ gG31, w ∈ lw_tbl := List.forall_mem_append.mpr ⟨tL31, tG32⟩
theorem tG30 : ∀ w ∈ gG30, w ∈ lw_tbl := List.forall_mem_append.mpr ⟨tL30, tG31⟩
theorem tG29 : ∀ w ∈ gG29, w ∈ lw_tbl := List.forall_mem_append.mpr ⟨tL29, tG30⟩
theorem tG28 : ∀ w ∈ gG28, w ∈ lw_tbl := List.forall_mem_append.mpr ⟨tL28, tG29⟩
theorem tG27 : ∀ w ∈ gG27, w ∈ lw_tbl := List.forall_mem_append.mpr ⟨tL27, tG28⟩
theorem tG26 : ∀ w ∈ gG26, w ∈ lw_tbl := List.forall_mem_append.mpr ⟨tL26, tG27⟩
theorem tG25 : ∀ w ∈ gG25, w ∈ lw_tbl := List.forall_mem_append.mpr ⟨tL25, tG26⟩
theorem tG24 : ∀ w ∈ gG24, w ∈ lw_tbl := List.forall_mem_append.mpr ⟨tL24, tG25⟩
theorem tG23 : ∀ w ∈ gG23, w ∈ lw_tbl := List.forall_mem_append.mpr ⟨tL23, tG24⟩
theorem tG22 : ∀ w ∈ gG22, w ∈ lw_tbl := List.forall_mem_append.mpr ⟨tL22, tG23⟩
theorem tG21 : ∀ w ∈ gG21, w ∈ lw_tbl := List.forall_mem_append.mpr ⟨tL21, tG22⟩
theorem tG20 : ∀ w ∈ gG20, w ∈ lw_tbl := List.forall_mem_append.mpr ⟨tL20, tG21⟩
theorem tG19 : ∀ w ∈ gG19, w ∈ lw_tbl := List.forall_mem_append.mpr ⟨tL19, tG20⟩
theorem tG18 : ∀ w ∈ gG18, w ∈ lw_tbl := List.forall_mem_append.mpr ⟨tL18, tG19⟩
theorem tG17 : ∀ w ∈ gG17, w ∈ lw_tbl := List.forall_mem_append.mpr ⟨tL17, tG18⟩
theorem tG16 : ∀ w ∈ gG16, w ∈ lw_tbl := List.forall_mem_append.mpr ⟨tL16, tG17⟩
theorem tG15 : ∀ w ∈ gG15, w ∈ lw_tbl := List.forall_mem_append.mpr ⟨tL15, tG16⟩
theorem tG14 : ∀ w ∈ gG14, w ∈ lw_tbl := List.forall_mem_append.mpr ⟨tL14, tG15⟩
theorem tG13 : ∀ w ∈ gG13, w ∈ lw_tbl := List.forall_mem_append.mpr ⟨tL13, tG14⟩
theorem tG12 : ∀ w ∈ gG12, w ∈ lw_tbl := List.forall_mem_append.mpr ⟨tL12, tG13⟩
theorem tG11 : ∀ w ∈ gG11, w ∈ lw_tbl := List.forall_mem_append.mpr ⟨tL11, tG12⟩
theorem tG10 : ∀ w ∈ gG10, w ∈ lw_tbl := List.forall_mem_append.mpr ⟨tL10, tG11⟩
theorem tG9 : ∀ w ∈ gG9, w ∈ lw_tbl := List.forall_mem_append.mpr ⟨tL9, tG10⟩
theorem tG8 : ∀ w ∈ gG8, w ∈ lw_tbl := List.forall_mem_append.mpr ⟨tL8, tG9⟩
theorem tG7 : ∀ w ∈ gG7, w ∈ lw_tbl := List.forall_mem_append.mpr ⟨tL7, tG8⟩
theorem tG6 : ∀ w ∈ gG6, w ∈ lw_tbl := List.forall_mem_append.mpr ⟨tL6, tG7⟩
theorem tG5 : ∀ w ∈ gG5, w ∈ lw_tbl := List.forall_mem_append.mpr ⟨tL5, tG6⟩
theorem tG4 : ∀ w ∈ gG4, w ∈ lw_tbl := List.forall_mem_append.mpr ⟨tL4, tG5⟩
theorem tG3 : ∀ w ∈ gG3, w ∈ lw_tbl := List.forall_mem_append.mpr ⟨tL3, tG4⟩
theorem tG2 : ∀ w ∈ gG2, w ∈ lw_tbl := List.forall_mem_append.mpr ⟨tL2, tG3⟩
theorem tG1 : ∀ w ∈ gG1, w ∈ lw_tbl := List.forall_mem_append.mpr ⟨tL1, tG2⟩
theorem tG0 : ∀ w ∈ gG0, w ∈ lw_tbl := List.forall_mem_append.mpr ⟨tL0, tG1⟩
theorem gwL : ∀ w ∈ GW, w ∈ lw_tbl := tG0
theorem tx_nest26 : (Cond.methodLinkNest RX11 26 yX5_init RX11) ∈ lw_tbl := List.mem_of_getElem? (i := 141) (by decide +kernel)
theorem tx_nest33 : (Cond.methodLinkNest RX11 33 yX8_init RX11) ∈ lw_tbl := List.mem_of_getElem? (i := 215) (by decide +kernel)
theorem tx_nest40 : (Cond.methodLinkNest RX11 40 yX1_init RX11) ∈ lw_tbl := List.mem_of_getElem? (i := 236) (by decide +kernel)
theorem tx_nest47 : (Cond.methodLinkNest RX11 47 yX10_init RX11) ∈ lw_tbl := List.mem_of_getElem? (i := 253) (by decide +kernel)
theorem tx_nest54 : (Cond.methodLinkNest RX11 54 yX0_init RX11) ∈ lw_tbl := List.mem_of_getElem? (i := 280) (by decide +kernel)
theorem tx_nest82 : (Cond.methodLinkNest RX11 82 yX4_init RX11) ∈ lw_tbl := List.mem_of_getElem? (i := 465) (by decide +kernel)
theorem tx_nest24 : (Cond.methodLinkNest RX7 24 yX3_init RX11) ∈ lw_tbl := List.mem_of_getElem? (i := 373) (by decide +kernel)
theorem tx_nest15 : (Cond.methodLinkNest RX9 15 yX6_init RX11) ∈ lw_tbl := List.mem_of_getElem? (i := 315) (by decide +kernel)
theorem tx_nest32 : (Cond.methodLinkNest RX2 32 yX11_isNode RX11) ∈ lw_tbl := List.mem_of_getElem? (i := 893) (by decide +kernel)
theorem tx_nest42 : (Cond.methodLinkNest RX10 42 yX2_writeAddress RX11) ∈ lw_tbl := List.mem_of_getElem? (i := 1010) (by decide +kernel)
theorem tx_ov7 : (Cond.arrayOver (.object RX7)) ∈ lw_tbl := List.mem_of_getElem? (i := 136) (by decide +kernel)
theorem tx_ov4 : (Cond.arrayOver (.object RX4)) ∈ lw_tbl := List.mem_of_getElem? (i := 138) (by decide +kernel)
theorem tx_ov6 : (Cond.arrayOver (.object RX6)) ∈ lw_tbl := List.mem_of_getElem? (i := 313) (by decide +kernel)
theorem tx_ovA : (Cond.arrayOver (.array .int)) ∈ lw_tbl := List.mem_of_getElem? (i := 146) (by decide +kernel)
theorem tx_acB : (Cond.arrayClass .byte) ∈ lw_tbl := List.mem_of_getElem? (i := 1094) (by decide +kernel)
theorem tx_acI : (Cond.arrayClass .int) ∈ lw_tbl := List.mem_of_getElem? (i := 211) (by decide +kernel)
theorem tx_acZ : (Cond.arrayClass .boolean) ∈ lw_tbl := List.mem_of_getElem? (i := 212) (by decide +kernel)
theorem tx_acJ : (Cond.arrayClass .long) ∈ lw_tbl := List.mem_of_getElem? (i := 1473) (by decide +kernel)
theorem tx_lsC : (Cond.laysStatic RX2 "CRC" "[I") ∈ lw_tbl := List.mem_of_getElem? (i := 605) (by decide +kernel)
theorem tx_lsH : (Cond.laysStatic RX2 "HEAD" "[I") ∈ lw_tbl := List.mem_of_getElem? (i := 731) (by decide +kernel)
theorem tx_lsB : (Cond.laysStatic RX2 "HAND_BYTES" "[I") ∈ lw_tbl := List.mem_of_getElem? (i := 955) (by decide +kernel)
theorem tx_lsS : (Cond.laysStatic RX0 "SBOX" "[I") ∈ lw_tbl := List.mem_of_getElem? (i := 817) (by decide +kernel)
theorem tx_lsT : (Cond.laysStatic "java/lang/String" "COMPACT_STRINGS" "Z") ∈ lw_tbl := List.mem_of_getElem? (i := 971) (by decide +kernel)
theorem tx_lsF : (Cond.laysStatic "jdk/internal/util/Preconditions" "SIOOBE_FORMATTER" "Ljava/util/function/BiFunction;") ∈ lw_tbl := List.mem_of_getElem? (i := 987) (by decide +kernel)
theorem tx_in2 : (Cond.initialized RX2) ∈ lw_tbl := List.mem_of_getElem? (i := 120) (by decide +kernel)
theorem tx_in0 : (Cond.initialized RX0) ∈ lw_tbl := List.mem_of_getElem? (i := 112) (by decide +kernel)
theorem tx_inT : (Cond.initialized "java/lang/String") ∈ lw_tbl := List.mem_of_getElem? (i := 123) (by decide +kernel)
theorem tx_inF : (Cond.initialized "jdk/internal/util/Preconditions") ∈ lw_tbl := List.mem_of_getElem? (i := 125) (by decide +kernel)
theorem tx_sr : (Cond.stringRef RX10 30 "Pairwise key expansion") ∈ lw_tbl := List.mem_of_getElem? (i := 961) (by decide +kernel)
