/-! what the tables say of fields, methods and constants, checked once, by places -/
def gw : List Cond := lw_tbl.filter goodWord
def TXa (c : Nat) : u_T := match c with
  | 0 => TX0
  | 1 => TX1
  | 2 => TX2
  | 3 => TX3
  | 4 => TX4
  | 5 => TX5
  | 6 => TX6
  | 7 => TX7
  | 8 => TX8
  | 9 => TX9
  | 10 => TX10
  | 11 => TX11
  | _ => TX12
def tyXa (c : Nat) : Nat → FieldType := match c with
  | 0 => tyX0
  | 1 => tyX1
  | 2 => tyX2
  | 3 => tyX3
  | 4 => tyX4
  | 5 => tyX5
  | 6 => tyX6
  | 7 => tyX7
  | 8 => tyX8
  | 9 => tyX9
  | 10 => tyX10
  | 11 => tyX11
  | _ => tyX12
def nFl (c : Nat) : Nat := ([10, 7, 10, 6, 8, 8, 13, 5, 9, 5, 19, 12, 62] : List Nat).getD c 0
def fkT : List (List Nat) := [[2, 2, 2, 2, 2, 2, 2, 0, 0, 1], [2, 2, 0, 2, 2, 2, 2], [2, 2, 2, 2, 2, 2, 2, 0, 0, 0], [2, 2, 2, 0, 0, 0], [2, 2, 2, 2, 2, 2, 0, 0], [2, 2, 2, 2, 2, 2, 2, 0], [0, 0, 2, 3, 0, 0, 2, 0, 0, 0, 1, 1, 1], [2, 2, 2, 2, 0], [2, 2, 2, 0, 2, 0, 2, 2, 2], [2, 0, 0, 0, 0], [0, 0, 2, 2, 2, 2, 2, 2, 2, 2, 0, 0, 2, 2, 0, 2, 0, 0, 0], [2, 2, 2, 2, 2, 2, 2, 2, 2, 2, 2, 2], [2, 2, 2, 0, 0, 0, 2, 2, 2, 2, 2, 2, 2, 0, 0, 0, 0, 0, 0, 0, 0, 0, 2, 2, 0, 2, 2, 0, 0, 0, 2, 2, 2, 2, 0, 2, 2, 2, 2, 0, 2, 2, 2, 2, 2, 2, 2, 2, 2, 2, 2, 2, 2, 2, 2, 2, 2, 2, 2, 2, 2, 2]]
def fk (c f : Nat) : Nat := (fkT.getD c []).getD f 9
def fOk (q : Nat × Nat × Nat × Nat × Nat × Nat) : Bool := (decide (q.2.2.1 = 14) && (decide (q.2.2.2 = (0, 2, q.2.2.2.2.2)) && decide (lw_tbl[q.2.2.2.2.2]? = some (Cond.fieldLink (clsS q.1) q.2.1 "java/lang/String" "value" "[B")) || decide (q.2.2.2 = (1, 4, q.2.2.2.2.2)) && decide (lw_tbl[q.2.2.2.2.2]? = some (Cond.fieldLink (clsS q.1) q.2.1 "java/lang/String" "coder" "B")))) || (decide (q.2.2.1 < 13) && decide (q.2.2.2.1 < nFl q.2.2.1) && decide (fk q.2.2.1 q.2.2.2.1 = q.2.2.2.2.1) && decide (lw_tbl[q.2.2.2.2.2]? = some (Cond.fieldLink (clsS q.1) q.2.1 (clsS q.2.2.1) (TXa q.2.2.1 q.2.2.2.1).2.1 (TXa q.2.2.1 q.2.2.2.1).2.2.1)) && decide ((TXa q.2.2.1 q.2.2.2.1).1 = clsS q.2.2.1) && (decide (q.2.2.2.2.1 = 2) || decide ((TXa q.2.2.1 q.2.2.2.1).2.2.2 = false)))
set_option maxRecDepth 100000 in
theorem fPosA0 : fPos0.all fOk = true := by decide +kernel
set_option maxRecDepth 100000 in
theorem fPosA1 : fPos1.all fOk = true := by decide +kernel
set_option maxRecDepth 100000 in
theorem fPosA2 : fPos2.all fOk = true := by decide +kernel
set_option maxRecDepth 100000 in
theorem fPosA3 : fPos3.all fOk = true := by decide +kernel
set_option maxRecDepth 100000 in
theorem fPosA4 : fPos4.all fOk = true := by decide +kernel
set_option maxRecDepth 100000 in
theorem fPosA5 : fPos5.all fOk = true := by decide +kernel
set_option maxRecDepth 100000 in
theorem fPosA6 : fPos6.all fOk = true := by decide +kernel
theorem fPosA : fPos.all fOk = true := by
  simp only [fPos, List.all_append, fPosA0, fPosA1, fPosA2, fPosA3, fPosA4, fPosA5, fPosA6, Bool.and_self]
def mPos : List (Nat × Nat × Nat × Nat) := [(1262, 136, 1260, 1261), (1318, 136, 1316, 1317), (1310, 136, 1308, 1309), (1266, 136, 1265, 39), (1278, 136, 1277, 40), (1283, 136, 1282, 41), (1289, 136, 1288, 42), (1303, 136, 1302, 45), (1294, 136, 1293, 43), (1298, 136, 1297, 44), (742, 134, 741, 0), (754, 134, 753, 2), (750, 134, 749, 1), (1153, 134, 1151, 1152), (738, 134, 736, 737), (791, 134, 789, 790), (1441, 134, 1439, 1440), (784, 134, 782, 783), (787, 134, 786, 0), (719, 134, 717, 718), (779, 134, 777, 778), (775, 134, 774, 3), (715, 134, 713, 714), (1184, 134, 1182, 1183), (1190, 134, 1188, 1189), (1329, 137, 1327, 1328), (1347, 137, 1345, 1346), (1341, 137, 1339, 1340), (1359, 137, 1357, 1358), (1378, 137, 1376, 1377), (1365, 137, 1364, 46), (1369, 137, 1368, 47), (1373, 137, 1372, 48), (1386, 137, 1384, 1385), (1390, 137, 1389, 49), (1403, 138, 1401, 1402), (1408, 138, 1407, 50), (1418, 139, 1416, 1417), (1423, 139, 1422, 51), (1429, 139, 1428, 52), (1202, 135, 1200, 1201), (1210, 135, 1208, 1209), (1245, 135, 1243, 1244), (1221, 135, 1220, 34), (1215, 135, 1214, 33), (1225, 135, 1224, 35), (1229, 135, 1228, 36), (1233, 135, 1232, 37), (1237, 135, 1236, 38), (890, 133, 888, 889), (1034, 133, 1033, 15), (1038, 133, 1037, 16), (1043, 133, 1042, 17), (1066, 133, 1065, 20), (1047, 133, 1046, 18), (1055, 133, 1054, 19), (1070, 133, 1069, 21), (1089, 133, 1088, 24), (1078, 133, 1077, 22), (1097, 133, 1096, 26), (1101, 133, 1100, 27), (1116, 133, 1115, 30), (1112, 133, 1111, 29), (1093, 133, 1092, 25), (1108, 133, 1107, 28), (1104, 133, 1103, 0), (1081, 133, 1080, 0), (1085, 133, 1084, 23), (1449, 140, 1447, 1448), (1475, 140, 1473, 1474), (1455, 140, 1454, 53), (1459, 140, 1458, 54), (1465, 140, 1464, 55), (1470, 140, 1469, 56), (894, 141, 892, 893), (746, 141, 744, 745), (1074, 141, 1072, 1073), (758, 141, 756, 757), (761, 141, 760, 0), (878, 132, 876, 877), (901, 132, 899, 900), (905, 132, 904, 9), (958, 132, 957, 12), (909, 132, 908, 10), (913, 132, 912, 11), (962, 132, 961, 13), (967, 132, 966, 14), (1483, 131, 1481, 1482), (655, 131, 653, 654), (663, 131, 661, 662), (671, 131, 669, 670), (690, 131, 688, 689), (694, 131, 692, 693), (686, 131, 684, 685), (1198, 131, 1196, 1197), (1253, 131, 1251, 1252), (1257, 131, 1255, 1256), (728, 131, 726, 727), (724, 131, 722, 723), (706, 131, 704, 705), (699, 131, 697, 698), (1144, 131, 1142, 1143), (682, 131, 680, 681), (816, 131, 814, 815), (832, 131, 830, 831), (841, 131, 839, 840), (849, 131, 847, 848), (820, 131, 819, 6), (824, 131, 823, 7), (861, 131, 859, 860), (865, 131, 863, 864), (870, 131, 868, 869), (795, 131, 793, 794), (808, 131, 806, 807), (804, 131, 803, 5), (799, 131, 798, 4), (1174, 131, 1172, 1173), (648, 130, 646, 647), (659, 130, 657, 658), (667, 130, 665, 666), (678, 130, 676, 677), (710, 130, 708, 709), (812, 130, 810, 811), (828, 130, 826, 827), (837, 130, 835, 836), (845, 130, 843, 844), (853, 130, 851, 852), (857, 130, 856, 8), (874, 130, 872, 873), (882, 130, 880, 881), (886, 130, 884, 885), (1120, 130, 1118, 1119), (1124, 130, 1122, 1123), (1128, 130, 1126, 1127), (1136, 130, 1135, 32), (1132, 130, 1131, 31), (1140, 130, 1138, 1139), (1148, 130, 1146, 1147), (1159, 130, 1157, 1158), (1164, 130, 1162, 1163), (1170, 130, 1168, 1169), (1180, 130, 1178, 1179), (1194, 130, 1192, 1193), (1249, 130, 1247, 1248), (1314, 130, 1312, 1313), (1324, 130, 1322, 1323), (1337, 130, 1335, 1336), (1351, 130, 1349, 1350), (1355, 130, 1353, 1354), (1382, 130, 1380, 1381), (1395, 130, 1393, 1394), (1399, 130, 1397, 1398), (1414, 130, 1412, 1413), (1436, 130, 1434, 1435), (1445, 130, 1443, 1444), (1479, 130, 1477, 1478), (1487, 130, 1485, 1486), (1491, 130, 1489, 1490), (651, 130, 650, 0), (674, 130, 673, 0), (1205, 130, 1204, 0), (1696, 142, 1695, 0), (1501, 142, 1500, 57), (1708, 142, 1707, 58), (1885, 142, 1884, 84), (1889, 142, 1888, 85), (1909, 142, 1908, 90), (1693, 142, 1691, 1692), (1700, 142, 1698, 1699), (1704, 142, 1702, 1703), (1893, 142, 1892, 86), (1712, 142, 1710, 1711), (1720, 142, 1719, 59), (1716, 142, 1714, 1715), (1724, 142, 1722, 1723), (1735, 142, 1734, 0), (1739, 142, 1738, 0), (1732, 142, 1731, 60), (1815, 142, 1814, 71), (1776, 142, 1775, 62), (1784, 142, 1783, 64), (1800, 142, 1799, 68), (1788, 142, 1787, 65), (1808, 142, 1807, 70), (1780, 142, 1779, 63), (1826, 142, 1825, 0), (1830, 142, 1829, 74), (1823, 142, 1822, 73), (1772, 142, 1771, 61), (1811, 142, 1810, 0), (1796, 142, 1795, 67), (1792, 142, 1791, 66), (1804, 142, 1803, 69), (1837, 142, 1836, 75), (1833, 142, 1832, 0), (1819, 142, 1818, 72), (1845, 142, 1844, 77), (1841, 142, 1840, 76), (1861, 142, 1860, 81), (1853, 142, 1852, 79), (1865, 142, 1864, 82), (1857, 142, 1856, 80), (1849, 142, 1848, 78), (1728, 142, 1726, 1727), (1869, 142, 1867, 1868), (1946, 142, 1945, 0), (1943, 142, 1942, 0), (1940, 142, 1939, 96), (1873, 142, 1871, 1872), (1929, 142, 1928, 94), (1932, 142, 1931, 0), (1901, 142, 1900, 88), (1979, 142, 1978, 103), (1905, 142, 1904, 89), (1936, 142, 1935, 95), (1925, 142, 1924, 93), (1921, 142, 1920, 92), (1959, 142, 1958, 0), (1956, 142, 1955, 98), (1952, 142, 1951, 97), (1963, 142, 1962, 99), (1967, 142, 1966, 100), (1971, 142, 1970, 101), (1975, 142, 1974, 102), (1917, 142, 1916, 91), (1881, 142, 1880, 83), (1897, 142, 1896, 87), (1877, 142, 1875, 1876), (1913, 142, 1911, 1912), (1987, 142, 1986, 104), (1991, 142, 1990, 105), (1983, 142, 1981, 1982), (1995, 142, 1993, 1994), (1999, 142, 1997, 1998), (2003, 142, 2001, 2002), (2015, 142, 2014, 107), (2011, 142, 2010, 106), (2007, 142, 2005, 2006), (2024, 142, 2023, 108), (2019, 142, 2017, 2018), (2037, 142, 2036, 109), (2033, 142, 2031, 2032), (2041, 142, 2039, 2040), (2045, 142, 2043, 2044), (2049, 142, 2047, 2048), (2053, 142, 2051, 2052), (2061, 142, 2060, 110), (2065, 142, 2064, 111), (2069, 142, 2068, 112), (2057, 142, 2055, 2056), (2077, 142, 2076, 113), (2081, 142, 2080, 114), (2085, 142, 2084, 115), (2089, 142, 2088, 116), (2073, 142, 2071, 2072), (2093, 142, 2091, 2092), (2097, 142, 2095, 2096), (2101, 142, 2099, 2100), (2105, 142, 2104, 117), (2109, 142, 2108, 118), (2113, 142, 2111, 2112), (2121, 142, 2120, 119), (2129, 142, 2128, 121), (2133, 142, 2132, 122), (2125, 142, 2124, 120), (2117, 142, 2115, 2116), (2137, 142, 2135, 2136), (2141, 142, 2139, 2140), (2148, 142, 2147, 0), (2152, 142, 2151, 123), (2156, 142, 2155, 124), (2145, 142, 2143, 2144), (2170, 142, 2169, 0), (2167, 142, 2166, 0), (2164, 142, 2163, 0), (2178, 142, 2177, 126), (2174, 142, 2173, 125), (2160, 142, 2158, 2159), (2186, 142, 2185, 127), (2182, 142, 2180, 2181), (2194, 142, 2193, 128), (2190, 142, 2188, 2189), (2198, 142, 2196, 2197), (2202, 142, 2200, 2201), (2206, 142, 2204, 2205), (0, 0, 0, 0), (980, 147, 978, 979), (918, 147, 916, 917), (972, 147, 970, 971), (976, 147, 974, 975), (984, 147, 982, 983), (922, 147, 920, 921), (930, 147, 929, 0), (927, 148, 926, 0), (990, 148, 989, 0), (987, 148, 986, 0), (995, 148, 994, 0), (935, 149, 934, 0), (731, 144, 730, 0), (1271, 146, 1270, 0), (897, 146, 896, 0), (1306, 145, 1305, 0), (771, 145, 770, 0), (768, 145, 767, 0)]
def mOk (k : Nat) : Bool := decide (lw_tbl[(mPos.getD k (0, 0, 0, 0)).1]? = some (Cond.code (yOf k) (cOf k) (nOf k) (rtOf k))) && decide (lw_tbl[(mPos.getD k (0, 0, 0, 0)).2.1]? = some (Cond.initialized (yOf k).cls)) && decide ((yOf k).cls = clsS (oOf k)) && decide (nOf k ≤ 30) && plainName (yOf k).cls && decide ((yOf k).cls ≠ "java/lang/invoke/MethodHandle") && decide ((yOf k).cls ≠ "java/lang/invoke/VarHandle") && (if stOf k then decide (lw_tbl[(mPos.getD k (0, 0, 0, 0)).2.2.1]? = some (Cond.static (yOf k))) else decide (lw_tbl[(mPos.getD k (0, 0, 0, 0)).2.2.1]? = some (Cond.instanceMethod (yOf k))) && decide (lw_tbl[(mPos.getD k (0, 0, 0, 0)).2.2.2]? = some (Cond.selects (yOf k).cls (yOf k) (yOf k))))
def mUse0 : List Nat := [0, 1, 2, 3, 4, 5, 6, 7, 8, 9]
def mUse1 : List Nat := [10, 11, 12, 13, 14, 15, 16, 17, 18, 19]
def mUse2 : List Nat := [20, 21, 22, 23, 24, 25, 26, 27, 28, 29]
def mUse3 : List Nat := [30, 31, 32, 33, 34, 35, 36, 37, 38, 39]
def mUse4 : List Nat := [40, 41, 42, 43, 44, 45, 46, 47, 48, 49]
def mUse5 : List Nat := [50, 51, 52, 53, 54, 55, 56, 57, 58, 59]
def mUse6 : List Nat := [60, 61, 62, 63, 64, 65, 66, 67, 68, 69]
def mUse7 : List Nat := [70, 71, 72, 73, 74, 75, 76, 77, 78, 79]
def mUse8 : List Nat := [80, 81, 82, 83, 84, 85, 86, 87, 88, 89]
def mUse9 : List Nat := [90, 91, 92, 93, 94, 95, 96, 97, 98, 99]
def mUse10 : List Nat := [100, 101, 102, 103, 104, 105, 106, 107, 108, 109]
def mUse11 : List Nat := [110, 111, 112, 113, 114, 115, 116, 117, 118, 119]
def mUse12 : List Nat := [120, 121, 122, 123, 124, 125, 126, 127, 128, 129]
def mUse13 : List Nat := [130, 131, 132, 133, 134, 135, 136, 137, 138, 139]
def mUse14 : List Nat := [140, 141, 142, 143, 144, 145, 146, 147, 148, 149]
def mUse15 : List Nat := [150, 151, 152, 153, 154, 155, 156, 157, 158, 159]
def mUse16 : List Nat := [160, 161, 162, 163, 164, 165, 166, 167, 168, 169]
def mUse17 : List Nat := [170, 171, 172, 173, 174, 175, 176, 177, 178, 179]
def mUse18 : List Nat := [180, 181, 182, 183, 184, 185, 186, 187, 188, 189]
def mUse19 : List Nat := [190, 191, 192, 193, 194, 195, 196, 197, 198, 199]
def mUse20 : List Nat := [200, 201, 202, 203, 204, 205, 206, 207, 208, 209]
def mUse21 : List Nat := [210, 211, 212, 213, 214, 215, 216, 217, 218, 219]
def mUse22 : List Nat := [220, 221, 222, 223, 224, 225, 226, 227, 228, 229]
def mUse23 : List Nat := [230, 231, 232, 233, 234, 235, 236, 237, 238, 239]
def mUse24 : List Nat := [240, 241, 242, 243, 244, 245, 246, 247, 248, 249]
def mUse25 : List Nat := [250, 251, 252, 253, 254, 255, 256, 257, 258, 259]
def mUse26 : List Nat := [260, 261, 262, 263, 264, 265, 266, 267, 268, 269]
def mUse27 : List Nat := [270, 271, 272, 273, 274, 275, 276, 277, 278, 279]
def mUse28 : List Nat := [280, 281, 282, 283, 284, 286, 287, 288, 289, 290]
def mUse29 : List Nat := [291, 292, 293, 294, 295, 296, 297, 298, 299, 300]
def mUse30 : List Nat := [301, 302, 303]
def mUse : List Nat := mUse0 ++ (mUse1 ++ (mUse2 ++ (mUse3 ++ (mUse4 ++ (mUse5 ++ (mUse6 ++ (mUse7 ++ (mUse8 ++ (mUse9 ++ (mUse10 ++ (mUse11 ++ (mUse12 ++ (mUse13 ++ (mUse14 ++ (mUse15 ++ (mUse16 ++ (mUse17 ++ (mUse18 ++ (mUse19 ++ (mUse20 ++ (mUse21 ++ (mUse22 ++ (mUse23 ++ (mUse24 ++ (mUse25 ++ (mUse26 ++ (mUse27 ++ (mUse28 ++ (mUse29 ++ (mUse30
))))))))))))))))))))))))))))))
set_option maxRecDepth 100000 in
theorem mUseA0 : mUse0.all mOk = true := by decide +kernel
set_option maxRecDepth 100000 in
theorem mUseA1 : mUse1.all mOk = true := by decide +kernel
set_option maxRecDepth 100000 in
theorem mUseA2 : mUse2.all mOk = true := by decide +kernel
set_option maxRecDepth 100000 in
theorem mUseA3 : mUse3.all mOk = true := by decide +kernel
set_option maxRecDepth 100000 in
theorem mUseA4 : mUse4.all mOk = true := by decide +kernel
set_option maxRecDepth 100000 in
theorem mUseA5 : mUse5.all mOk = true := by decide +kernel
set_option maxRecDepth 100000 in
theorem mUseA6 : mUse6.all mOk = true := by decide +kernel
set_option maxRecDepth 100000 in
theorem mUseA7 : mUse7.all mOk = true := by decide +kernel
set_option maxRecDepth 100000 in
theorem mUseA8 : mUse8.all mOk = true := by decide +kernel
set_option maxRecDepth 100000 in
theorem mUseA9 : mUse9.all mOk = true := by decide +kernel
set_option maxRecDepth 100000 in
theorem mUseA10 : mUse10.all mOk = true := by decide +kernel
set_option maxRecDepth 100000 in
theorem mUseA11 : mUse11.all mOk = true := by decide +kernel
set_option maxRecDepth 100000 in
theorem mUseA12 : mUse12.all mOk = true := by decide +kernel
set_option maxRecDepth 100000 in
theorem mUseA13 : mUse13.all mOk = true := by decide +kernel
set_option maxRecDepth 100000 in
theorem mUseA14 : mUse14.all mOk = true := by decide +kernel
set_option maxRecDepth 100000 in
theorem mUseA15 : mUse15.all mOk = true := by decide +kernel
set_option maxRecDepth 100000 in
theorem mUseA16 : mUse16.all mOk = true := by decide +kernel
set_option maxRecDepth 100000 in
theorem mUseA17 : mUse17.all mOk = true := by decide +kernel
set_option maxRecDepth 100000 in
theorem mUseA18 : mUse18.all mOk = true := by decide +kernel
set_option maxRecDepth 100000 in
theorem mUseA19 : mUse19.all mOk = true := by decide +kernel
set_option maxRecDepth 100000 in
theorem mUseA20 : mUse20.all mOk = true := by decide +kernel
set_option maxRecDepth 100000 in
theorem mUseA21 : mUse21.all mOk = true := by decide +kernel
set_option maxRecDepth 100000 in
theorem mUseA22 : mUse22.all mOk = true := by decide +kernel
set_option maxRecDepth 100000 in
theorem mUseA23 : mUse23.all mOk = true := by decide +kernel
set_option maxRecDepth 100000 in
theorem mUseA24 : mUse24.all mOk = true := by decide +kernel
set_option maxRecDepth 100000 in
theorem mUseA25 : mUse25.all mOk = true := by decide +kernel
set_option maxRecDepth 100000 in
theorem mUseA26 : mUse26.all mOk = true := by decide +kernel
set_option maxRecDepth 100000 in
theorem mUseA27 : mUse27.all mOk = true := by decide +kernel
set_option maxRecDepth 100000 in
theorem mUseA28 : mUse28.all mOk = true := by decide +kernel
set_option maxRecDepth 100000 in
theorem mUseA29 : mUse29.all mOk = true := by decide +kernel
set_option maxRecDepth 100000 in
theorem mUseA30 : mUse30.all mOk = true := by decide +kernel
theorem mUseA : mUse.all mOk = true := by
  simp only [mUse, List.all_append, mUseA0, mUseA1, mUseA2, mUseA3, mUseA4, mUseA5, mUseA6, mUseA7, mUseA8, mUseA9, mUseA10, mUseA11, mUseA12, mUseA13, mUseA14, mUseA15, mUseA16, mUseA17, mUseA18, mUseA19, mUseA20, mUseA21, mUseA22, mUseA23, mUseA24, mUseA25, mUseA26, mUseA27, mUseA28, mUseA29, mUseA30, Bool.and_self]
def lOk (q : Nat × Nat × Nat × Nat × Nat × Nat) : Bool := if q.2.2.1 = 9999 then decide (lw_tbl[q.2.2.2.2.2]? = some (Cond.methodLink (clsS q.1) q.2.1 arraycopyName)) else
  mUse.contains q.2.2.1 && decide (1 ≤ q.2.2.2.1 ∨ stOf q.2.2.1 = true) && decide ((parseMethodDescriptor (yOf q.2.2.1).desc).map (fun d => d.parameters.length) = some (if stOf q.2.2.1 then q.2.2.2.1 else q.2.2.2.1 - 1)) && (if q.2.2.2.2.1 = 1 then decide (lw_tbl[q.2.2.2.2.2]? = some (Cond.methodLinkNest (clsS q.1) q.2.1 (yOf q.2.2.1) "HummingBridges")) else decide (lw_tbl[q.2.2.2.2.2]? = some (Cond.methodLink (clsS q.1) q.2.1 (yOf q.2.2.1))))
set_option maxRecDepth 100000 in
theorem lPosA0 : lPos0.all lOk = true := by decide +kernel
set_option maxRecDepth 100000 in
theorem lPosA1 : lPos1.all lOk = true := by decide +kernel
set_option maxRecDepth 100000 in
theorem lPosA2 : lPos2.all lOk = true := by decide +kernel
set_option maxRecDepth 100000 in
theorem lPosA3 : lPos3.all lOk = true := by decide +kernel
set_option maxRecDepth 100000 in
theorem lPosA4 : lPos4.all lOk = true := by decide +kernel
set_option maxRecDepth 100000 in
theorem lPosA5 : lPos5.all lOk = true := by decide +kernel
set_option maxRecDepth 100000 in
theorem lPosA6 : lPos6.all lOk = true := by decide +kernel
set_option maxRecDepth 100000 in
theorem lPosA7 : lPos7.all lOk = true := by decide +kernel
set_option maxRecDepth 100000 in
theorem lPosA8 : lPos8.all lOk = true := by decide +kernel
set_option maxRecDepth 100000 in
theorem lPosA9 : lPos9.all lOk = true := by decide +kernel
theorem lPosA : lPos.all lOk = true := by
  simp only [lPos, List.all_append, lPosA0, lPosA1, lPosA2, lPosA3, lPosA4, lPosA5, lPosA6, lPosA7, lPosA8, lPosA9, Bool.and_self]
def kOk (q : Nat × Nat × Nat × Int × Nat) : Bool := if q.2.2.1 = 1 then decide (lw_tbl[q.2.2.2.2]? = some (Cond.constant (clsS q.1) q.2.1 (Int32.ofInt q.2.2.2.1))) else if q.2.2.1 = 3 then decide (lw_tbl[q.2.2.2.2]? = some (Cond.constantLong (clsS q.1) q.2.1 (Int64.ofInt q.2.2.2.1))) else decide (q.2.2.1 = 2) && (decide (q.1 = 9) && (decide (q.2.1 = 43) && decide (q.2.2.2.1 = 147) || decide (q.2.1 = 60) && decide (q.2.2.2.1 = 149)))
set_option maxRecDepth 100000 in
theorem kPosA0 : kPos0.all kOk = true := by decide +kernel
set_option maxRecDepth 100000 in
theorem kPosA1 : kPos1.all kOk = true := by decide +kernel
theorem kPosA : kPos.all kOk = true := by
  simp only [kPos, List.all_append, kPosA0, kPosA1, Bool.and_self]
def sN : List (String × String × String) := [("HummingBridges$Reader", "FIRST_LEAST", "[I"), ("HummingBridges$Reader", "FIRST_MOST", "[I"), ("HummingBridges$Reader", "LINK", "[I"), ("HummingBridges$Reader", "SECOND_LEAST", "[I"), ("HummingBridges$Reader", "SECOND_MOST", "[I"), ("java/lang/String", "COMPACT_STRINGS", "Z"), ("jdk/internal/util/Preconditions", "SIOOBE_FORMATTER", "Ljava/util/function/BiFunction;")]
def sNa (q : Nat) : String × String × String := sN.getD q ("", "", "")
def gOk (q : Nat × Nat × Nat × Int × Nat × Nat) : Bool := decide (q.2.2.2.2.1 < 7) && decide (lw_tbl[q.2.2.2.2.2]? = some (Cond.fieldLink (clsS q.1) q.2.1 (sNa q.2.2.2.2.1).1 (sNa q.2.2.2.2.1).2.1 (sNa q.2.2.2.2.1).2.2)) && (decide (q.2.2.2.2.1 < 5) && decide (q.2.2.1 = 2) && decide (q.2.2.2.1 = 142 + (q.2.2.2.2.1 : Int)) || decide (q.2.2.2.2.1 = 5) && decide (q.2.2.1 = 1) && decide (q.2.2.2.1 = 1) || decide (q.2.2.2.2.1 = 6) && decide (q.2.2.1 = 2) && decide (q.2.2.2.1 = 151))
set_option maxRecDepth 100000 in
theorem gPosA0 : gPos0.all gOk = true := by decide +kernel
theorem gPosA : gPos.all gOk = true := by
  simp only [gPos, List.all_append, gPosA0, Bool.and_self]
