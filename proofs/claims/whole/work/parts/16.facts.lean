theorem cl_0_13 : (0 * 1000 + 13, 0, 1, 1, 0, 838, 839, 0, 187) ∈ gCL := by decide +kernel
theorem cl_0_17 : (0 * 1000 + 17, 1, 64, 0, 1, 827, 798, 799, 181) ∈ gCL := by decide +kernel
theorem cl_0_23 : (0 * 1000 + 23, 1, 66, 1, 1, 829, 830, 831, 181) ∈ gCL := by decide +kernel
theorem cl_0_31 : (0 * 1000 + 31, 1, 75, 1, 1, 833, 790, 791, 181) ∈ gCL := by decide +kernel
theorem cl_0_35 : (0 * 1000 + 35, 1, 68, 1, 1, 834, 835, 836, 181) ∈ gCL := by decide +kernel
theorem cl_0_39 : (0 * 1000 + 39, 1, 65, 1, 1, 841, 695, 696, 181) ∈ gCL := by decide +kernel
theorem cl_0_42 : (0 * 1000 + 42, 1, 69, 2, 1, 842, 691, 692, 181) ∈ gCL := by decide +kernel
theorem cl_10_106 : (10 * 1000 + 106, 1, 78, 2, 1, 953, 806, 807, 181) ∈ gCL := by decide +kernel
theorem cl_10_110 : (10 * 1000 + 110, 1, 188, 2, 9, 954, 956, 10, 184) ∈ gCL := by decide +kernel
theorem cl_10_113 : (10 * 1000 + 113, 1, 189, 2, 9, 958, 960, 11, 184) ∈ gCL := by decide +kernel
theorem cl_10_135 : (10 * 1000 + 135, 1, 193, 1, 9, 975, 977, 15, 184) ∈ gCL := by decide +kernel
theorem cl_10_142 : (10 * 1000 + 142, 1, 70, 3, 1, 984, 848, 849, 181) ∈ gCL := by decide +kernel
theorem cl_10_28 : (10 * 1000 + 28, 1, 182, 1, 9, 904, 906, 6, 184) ∈ gCL := by decide +kernel
theorem cl_10_38 : (10 * 1000 + 38, 1, 183, 0, 9, 916, 918, 7, 184) ∈ gCL := by decide +kernel
theorem cl_10_50 : (10 * 1000 + 50, 0, 364, 1, 0, 910, 911, 0, 195) ∈ gCL := by decide +kernel
theorem cl_10_62 : (10 * 1000 + 62, 0, 2, 1, 0, 920, 865, 0, 187) ∈ gCL := by decide +kernel
theorem cl_10_69 : (10 * 1000 + 69, 1, 68, 1, 1, 921, 835, 836, 181) ∈ gCL := by decide +kernel
theorem cl_10_73 : (10 * 1000 + 73, 1, 64, 0, 1, 983, 798, 799, 181) ∈ gCL := by decide +kernel
theorem cl_10_76 : (10 * 1000 + 76, 1, 75, 1, 1, 930, 790, 791, 181) ∈ gCL := by decide +kernel
theorem cl_10_79 : (10 * 1000 + 79, 1, 76, 1, 1, 931, 932, 933, 181) ∈ gCL := by decide +kernel
theorem cl_10_85 : (10 * 1000 + 85, 1, 187, 2, 9, 947, 949, 9, 184) ∈ gCL := by decide +kernel
theorem cl_10_89 : (10 * 1000 + 89, 1, 190, 2, 9, 963, 965, 12, 184) ∈ gCL := by decide +kernel
theorem cl_10_93 : (10 * 1000 + 93, 1, 191, 1, 9, 967, 969, 13, 184) ∈ gCL := by decide +kernel
theorem cl_10_97 : (10 * 1000 + 97, 1, 192, 2, 9, 971, 973, 14, 184) ∈ gCL := by decide +kernel
theorem cl_11_102 : (11 * 1000 + 102, 1, 78, 2, 1, 805, 806, 807, 181) ∈ gCL := by decide +kernel
theorem cl_11_106 : (11 * 1000 + 106, 1, 202, 0, 10, 816, 818, 0, 180) ∈ gCL := by decide +kernel
theorem cl_11_110 : (11 * 1000 + 110, 1, 203, 0, 10, 854, 856, 2, 180) ∈ gCL := by decide +kernel
theorem cl_11_113 : (11 * 1000 + 113, 1, 204, 1, 10, 820, 822, 1, 180) ∈ gCL := by decide +kernel
theorem cl_11_116 : (11 * 1000 + 116, 0, 3, 2, 0, 824, 825, 0, 187) ∈ gCL := by decide +kernel
theorem cl_11_120 : (11 * 1000 + 120, 1, 71, 1, 1, 843, 844, 845, 181) ∈ gCL := by decide +kernel
theorem cl_11_124 : (11 * 1000 + 124, 1, 77, 1, 1, 858, 859, 860, 181) ∈ gCL := by decide +kernel
theorem cl_11_129 : (11 * 1000 + 129, 0, 2, 1, 0, 864, 865, 0, 187) ∈ gCL := by decide +kernel
theorem cl_11_133 : (11 * 1000 + 133, 1, 68, 1, 1, 868, 835, 836, 181) ∈ gCL := by decide +kernel
theorem cl_11_137 : (11 * 1000 + 137, 1, 212, 1, 10, 873, 875, 3, 180) ∈ gCL := by decide +kernel
theorem cl_11_141 : (11 * 1000 + 141, 1, 214, 1, 10, 877, 879, 4, 180) ∈ gCL := by decide +kernel
theorem cl_11_148 : (11 * 1000 + 148, 1, 213, 2, 10, 885, 887, 5, 180) ∈ gCL := by decide +kernel
theorem cl_11_152 : (11 * 1000 + 152, 1, 108, 1, 4, 889, 890, 891, 183) ∈ gCL := by decide +kernel
theorem cl_11_158 : (11 * 1000 + 158, 1, 181, 1, 9, 900, 901, 902, 184) ∈ gCL := by decide +kernel
theorem cl_11_161 : (11 * 1000 + 161, 1, 215, 0, 10, 922, 924, 8, 180) ∈ gCL := by decide +kernel
theorem cl_11_164 : (11 * 1000 + 164, 1, 98, 1, 3, 1074, 1075, 1076, 189) ∈ gCL := by decide +kernel
theorem cl_11_165 : (11 * 1000 + 165, 1, 216, 0, 10, 1098, 1100, 27, 180) ∈ gCL := by decide +kernel
theorem cl_11_168 : (11 * 1000 + 168, 1, 112, 1, 4, 1267, 1268, 1269, 183) ∈ gCL := by decide +kernel
theorem cl_11_171 : (11 * 1000 + 171, 1, 109, 1, 4, 1290, 1291, 1292, 183) ∈ gCL := by decide +kernel
theorem cl_11_174 : (11 * 1000 + 174, 1, 114, 1, 4, 1298, 1299, 1300, 183) ∈ gCL := by decide +kernel
theorem cl_11_177 : (11 * 1000 + 177, 1, 113, 1, 4, 1306, 1272, 1273, 183) ∈ gCL := by decide +kernel
theorem cl_11_180 : (11 * 1000 + 180, 1, 110, 1, 4, 1311, 1214, 1215, 183) ∈ gCL := by decide +kernel
theorem cl_11_183 : (11 * 1000 + 183, 1, 185, 1, 9, 926, 927, 928, 184) ∈ gCL := by decide +kernel
theorem cl_11_186 : (11 * 1000 + 186, 1, 5, 0, 0, 935, 936, 937, 192) ∈ gCL := by decide +kernel
theorem cl_11_190 : (11 * 1000 + 190, 1, 186, 3, 9, 943, 944, 945, 184) ∈ gCL := by decide +kernel
theorem cl_11_197 : (11 * 1000 + 197, 1, 194, 3, 9, 979, 980, 981, 184) ∈ gCL := by decide +kernel
theorem cl_11_201 : (11 * 1000 + 201, 1, 10, 1, 0, 985, 986, 987, 192) ∈ gCL := by decide +kernel
theorem cl_11_204 : (11 * 1000 + 204, 1, 184, 0, 9, 1070, 1071, 1072, 184) ∈ gCL := by decide +kernel
theorem cl_11_207 : (11 * 1000 + 207, 1, 103, 0, 3, 1102, 1103, 1104, 189) ∈ gCL := by decide +kernel
theorem cl_11_210 : (11 * 1000 + 210, 1, 104, 0, 3, 1115, 1116, 1117, 189) ∈ gCL := by decide +kernel
theorem cl_11_219 : (11 * 1000 + 219, 1, 143, 2, 6, 1119, 1120, 1121, 188) ∈ gCL := by decide +kernel
theorem cl_11_222 : (11 * 1000 + 222, 1, 135, 0, 6, 1176, 1177, 1178, 188) ∈ gCL := by decide +kernel
theorem cl_11_225 : (11 * 1000 + 225, 1, 105, 0, 3, 1222, 1223, 1224, 189) ∈ gCL := by decide +kernel
theorem cl_11_228 : (11 * 1000 + 228, 1, 219, 3, 10, 1316, 1318, 48, 180) ∈ gCL := by decide +kernel
theorem cl_11_232 : (11 * 1000 + 232, 1, 86, 5, 2, 1324, 1325, 1326, 185) ∈ gCL := by decide +kernel
theorem cl_11_239 : (11 * 1000 + 239, 1, 129, 0, 6, 1338, 1339, 1340, 188) ∈ gCL := by decide +kernel
theorem cl_11_242 : (11 * 1000 + 242, 1, 130, 0, 6, 1342, 1343, 1344, 188) ∈ gCL := by decide +kernel
theorem cl_11_243 : (11 * 1000 + 243, 1, 132, 1, 6, 1347, 1348, 1349, 188) ∈ gCL := by decide +kernel
theorem cl_11_246 : (11 * 1000 + 246, 1, 131, 2, 6, 1351, 1352, 1353, 188) ∈ gCL := by decide +kernel
theorem cl_11_250 : (11 * 1000 + 250, 1, 220, 1, 10, 1320, 1322, 49, 180) ∈ gCL := by decide +kernel
theorem cl_11_256 : (11 * 1000 + 256, 1, 80, 1, 2, 1363, 1144, 1145, 185) ∈ gCL := by decide +kernel
theorem cl_11_259 : (11 * 1000 + 259, 1, 81, 1, 2, 1364, 1365, 1366, 185) ∈ gCL := by decide +kernel
theorem cl_11_262 : (11 * 1000 + 262, 1, 82, 1, 2, 1368, 1369, 1370, 185) ∈ gCL := by decide +kernel
theorem cl_11_265 : (11 * 1000 + 265, 1, 83, 1, 2, 1372, 1373, 1374, 185) ∈ gCL := by decide +kernel
theorem cl_11_268 : (11 * 1000 + 268, 1, 224, 2, 10, 1380, 1382, 50, 180) ∈ gCL := by decide +kernel
theorem cl_11_274 : (11 * 1000 + 274, 1, 154, 2, 6, 1384, 1385, 1386, 188) ∈ gCL := by decide +kernel
theorem cl_11_278 : (11 * 1000 + 278, 1, 151, 1, 6, 1388, 1389, 1390, 188) ∈ gCL := by decide +kernel
theorem cl_11_281 : (11 * 1000 + 281, 1, 152, 2, 6, 1392, 1393, 1394, 188) ∈ gCL := by decide +kernel
theorem cl_11_284 : (11 * 1000 + 284, 1, 155, 1, 6, 1409, 1410, 1411, 188) ∈ gCL := by decide +kernel
theorem cl_11_287 : (11 * 1000 + 287, 1, 96, 1, 3, 1421, 1422, 1423, 189) ∈ gCL := by decide +kernel
theorem cl_11_290 : (11 * 1000 + 290, 1, 97, 1, 3, 1425, 1426, 1427, 189) ∈ gCL := by decide +kernel
theorem cl_11_321 : (11 * 1000 + 321, 1, 87, 1, 2, 1437, 1438, 1439, 185) ∈ gCL := by decide +kernel
theorem cl_11_328 : (11 * 1000 + 328, 1, 167, 1, 7, 1441, 1136, 1137, 186) ∈ gCL := by decide +kernel
theorem cl_11_333 : (11 * 1000 + 333, 1, 171, 2, 7, 1442, 1443, 1444, 186) ∈ gCL := by decide +kernel
theorem cl_11_336 : (11 * 1000 + 336, 1, 172, 2, 7, 1446, 1447, 1448, 186) ∈ gCL := by decide +kernel
theorem cl_11_339 : (11 * 1000 + 339, 1, 166, 1, 7, 1451, 1452, 1453, 186) ∈ gCL := by decide +kernel
theorem cl_11_355 : (11 * 1000 + 355, 1, 51, 0, 0, 1467, 1468, 1469, 192) ∈ gCL := by decide +kernel
theorem cl_11_358 : (11 * 1000 + 358, 1, 38, 0, 0, 1487, 1488, 1489, 192) ∈ gCL := by decide +kernel
theorem cl_11_361 : (11 * 1000 + 361, 1, 48, 0, 0, 1505, 1506, 1507, 192) ∈ gCL := by decide +kernel
theorem cl_11_364 : (11 * 1000 + 364, 1, 16, 0, 0, 1525, 1526, 1527, 192) ∈ gCL := by decide +kernel
theorem cl_11_367 : (11 * 1000 + 367, 1, 195, 0, 9, 1721, 1722, 1723, 184) ∈ gCL := by decide +kernel
theorem cl_11_371 : (11 * 1000 + 371, 1, 121, 2, 5, 1725, 1726, 1727, 190) ∈ gCL := by decide +kernel
theorem cl_11_374 : (11 * 1000 + 374, 1, 148, 0, 6, 1762, 1763, 1764, 188) ∈ gCL := by decide +kernel
theorem cl_11_377 : (11 * 1000 + 377, 1, 149, 0, 6, 1766, 1767, 1768, 188) ∈ gCL := by decide +kernel
theorem cl_11_383 : (11 * 1000 + 383, 1, 6, 1, 0, 1786, 1501, 1502, 192) ∈ gCL := by decide +kernel
theorem cl_11_441 : (11 * 1000 + 441, 1, 165, 1, 7, 1807, 1522, 1523, 186) ∈ gCL := by decide +kernel
theorem cl_11_444 : (11 * 1000 + 444, 1, 7, 1, 0, 1808, 1518, 1519, 192) ∈ gCL := by decide +kernel
theorem cl_11_447 : (11 * 1000 + 447, 1, 168, 1, 7, 1809, 1185, 1186, 186) ∈ gCL := by decide +kernel
theorem cl_11_450 : (11 * 1000 + 450, 1, 9, 1, 0, 1814, 1815, 1816, 192) ∈ gCL := by decide +kernel
theorem cl_11_453 : (11 * 1000 + 453, 1, 50, 1, 0, 1818, 1472, 1473, 192) ∈ gCL := by decide +kernel
theorem cl_11_92 : (11 * 1000 + 92, 1, 65, 1, 1, 784, 695, 696, 181) ∈ gCL := by decide +kernel
theorem cl_11_95 : (11 * 1000 + 95, 1, 75, 1, 1, 789, 790, 791, 181) ∈ gCL := by decide +kernel
theorem cl_11_99 : (11 * 1000 + 99, 1, 64, 0, 1, 797, 798, 799, 181) ∈ gCL := by decide +kernel
theorem cl_12_11 : (12 * 1000 + 11, 0, 245, 3, 11, 1839, 1840, 0, 193) ∈ gCL := by decide +kernel
theorem cl_12_116 : (12 * 1000 + 116, 1, 267, 0, 11, 1924, 1926, 112, 193) ∈ gCL := by decide +kernel
theorem cl_12_129 : (12 * 1000 + 129, 1, 268, 2, 11, 1928, 1930, 113, 193) ∈ gCL := by decide +kernel
theorem cl_12_151 : (12 * 1000 + 151, 1, 270, 2, 11, 1932, 1934, 114, 193) ∈ gCL := by decide +kernel
theorem cl_12_157 : (12 * 1000 + 157, 1, 269, 3, 11, 1988, 1990, 125, 193) ∈ gCL := by decide +kernel
theorem cl_12_16 : (12 * 1000 + 16, 0, 246, 5, 11, 1850, 1851, 0, 193) ∈ gCL := by decide +kernel
theorem cl_12_170 : (12 * 1000 + 170, 1, 317, 1, 11, 1936, 1938, 115, 193) ∈ gCL := by decide +kernel
theorem cl_12_185 : (12 * 1000 + 185, 1, 271, 5, 11, 2032, 2034, 136, 193) ∈ gCL := by decide +kernel
theorem cl_12_20 : (12 * 1000 + 20, 0, 248, 3, 11, 1853, 1854, 0, 193) ∈ gCL := by decide +kernel
theorem cl_12_228 : (12 * 1000 + 228, 0, 273, 5, 11, 1985, 1986, 0, 193) ∈ gCL := by decide +kernel
theorem cl_12_241 : (12 * 1000 + 241, 1, 289, 2, 11, 2020, 2022, 133, 193) ∈ gCL := by decide +kernel
theorem cl_12_244 : (12 * 1000 + 244, 1, 274, 0, 11, 2036, 2038, 137, 193) ∈ gCL := by decide +kernel
theorem cl_12_247 : (12 * 1000 + 247, 1, 290, 1, 11, 2012, 2014, 131, 193) ∈ gCL := by decide +kernel
theorem cl_12_256 : (12 * 1000 + 256, 1, 278, 0, 11, 2008, 2010, 130, 193) ∈ gCL := by decide +kernel
theorem cl_12_259 : (12 * 1000 + 259, 1, 279, 1, 11, 2004, 2006, 129, 193) ∈ gCL := by decide +kernel
theorem cl_12_261 : (12 * 1000 + 261, 1, 281, 3, 11, 2024, 2026, 134, 193) ∈ gCL := by decide +kernel
theorem cl_12_265 : (12 * 1000 + 265, 1, 277, 1, 11, 2040, 2042, 138, 193) ∈ gCL := by decide +kernel
theorem cl_12_268 : (12 * 1000 + 268, 1, 275, 0, 11, 2028, 2030, 135, 193) ∈ gCL := by decide +kernel
theorem cl_12_271 : (12 * 1000 + 271, 1, 282, 2, 11, 2044, 2046, 139, 193) ∈ gCL := by decide +kernel
theorem cl_12_278 : (12 * 1000 + 278, 1, 276, 0, 11, 2048, 2050, 140, 193) ∈ gCL := by decide +kernel
theorem cl_12_284 : (12 * 1000 + 284, 1, 284, 0, 11, 2239, 2241, 176, 193) ∈ gCL := by decide +kernel
theorem cl_12_287 : (12 * 1000 + 287, 1, 272, 0, 11, 2079, 2081, 145, 193) ∈ gCL := by decide +kernel
theorem cl_12_290 : (12 * 1000 + 290, 0, 285, 3, 11, 2076, 2077, 0, 193) ∈ gCL := by decide +kernel
theorem cl_12_297 : (12 * 1000 + 297, 1, 288, 1, 11, 2016, 2018, 132, 193) ∈ gCL := by decide +kernel
theorem cl_12_30 : (12 * 1000 + 30, 0, 247, 2, 11, 1865, 1866, 0, 193) ∈ gCL := by decide +kernel
theorem cl_12_318 : (12 * 1000 + 318, 0, 291, 1, 11, 2095, 2096, 0, 193) ∈ gCL := by decide +kernel
theorem cl_12_321 : (12 * 1000 + 321, 1, 293, 3, 11, 2091, 2093, 146, 193) ∈ gCL := by decide +kernel
theorem cl_12_324 : (12 * 1000 + 324, 1, 292, 3, 11, 2098, 2100, 147, 193) ∈ gCL := by decide +kernel
theorem cl_12_34 : (12 * 1000 + 34, 0, 249, 2, 11, 1847, 1848, 0, 193) ∈ gCL := by decide +kernel
theorem cl_12_346 : (12 * 1000 + 346, 1, 302, 0, 11, 1996, 1998, 127, 193) ∈ gCL := by decide +kernel
theorem cl_12_359 : (12 * 1000 + 359, 1, 300, 0, 11, 2068, 2070, 144, 193) ∈ gCL := by decide +kernel
theorem cl_12_37 : (12 * 1000 + 37, 1, 252, 2, 11, 1856, 1858, 105, 193) ∈ gCL := by decide +kernel
theorem cl_12_377 : (12 * 1000 + 377, 1, 280, 4, 11, 2000, 2002, 128, 193) ∈ gCL := by decide +kernel
theorem cl_12_393 : (12 * 1000 + 393, 1, 346, 3, 11, 2052, 2054, 141, 193) ∈ gCL := by decide +kernel
theorem cl_12_420 : (12 * 1000 + 420, 1, 306, 3, 11, 1973, 1975, 122, 193) ∈ gCL := by decide +kernel
theorem cl_12_423 : (12 * 1000 + 423, 1, 307, 1, 11, 1977, 1979, 123, 193) ∈ gCL := by decide +kernel
theorem cl_12_43 : (12 * 1000 + 43, 1, 250, 2, 11, 1861, 1863, 106, 193) ∈ gCL := by decide +kernel
theorem cl_12_453 : (12 * 1000 + 453, 1, 308, 1, 11, 1981, 1983, 124, 193) ∈ gCL := by decide +kernel
theorem cl_12_468 : (12 * 1000 + 468, 0, 311, 6, 11, 1954, 1955, 0, 193) ∈ gCL := by decide +kernel
theorem cl_12_472 : (12 * 1000 + 472, 1, 313, 2, 11, 1944, 1946, 117, 193) ∈ gCL := by decide +kernel
theorem cl_12_475 : (12 * 1000 + 475, 0, 310, 1, 11, 1948, 1949, 0, 193) ∈ gCL := by decide +kernel
theorem cl_12_478 : (12 * 1000 + 478, 0, 312, 2, 11, 1951, 1952, 0, 193) ∈ gCL := by decide +kernel
theorem cl_12_481 : (12 * 1000 + 481, 1, 315, 3, 11, 1957, 1959, 118, 193) ∈ gCL := by decide +kernel
theorem cl_12_484 : (12 * 1000 + 484, 1, 316, 0, 11, 1940, 1942, 116, 193) ∈ gCL := by decide +kernel
theorem cl_12_488 : (12 * 1000 + 488, 1, 318, 4, 11, 1961, 1963, 119, 193) ∈ gCL := by decide +kernel
theorem cl_12_501 : (12 * 1000 + 501, 1, 303, 2, 11, 1965, 1967, 120, 193) ∈ gCL := by decide +kernel
theorem cl_12_504 : (12 * 1000 + 504, 1, 305, 2, 11, 1969, 1971, 121, 193) ∈ gCL := by decide +kernel
theorem cl_12_516 : (12 * 1000 + 516, 1, 321, 2, 11, 2162, 2164, 157, 193) ∈ gCL := by decide +kernel
theorem cl_12_520 : (12 * 1000 + 520, 1, 325, 2, 11, 2187, 2189, 163, 193) ∈ gCL := by decide +kernel
theorem cl_12_523 : (12 * 1000 + 523, 1, 320, 4, 11, 2166, 2168, 158, 193) ∈ gCL := by decide +kernel
theorem cl_12_533 : (12 * 1000 + 533, 1, 322, 2, 11, 2170, 2172, 159, 193) ∈ gCL := by decide +kernel
theorem cl_12_539 : (12 * 1000 + 539, 1, 323, 2, 11, 2174, 2176, 160, 193) ∈ gCL := by decide +kernel
theorem cl_12_542 : (12 * 1000 + 542, 1, 324, 2, 11, 2183, 2185, 162, 193) ∈ gCL := by decide +kernel
theorem cl_12_545 : (12 * 1000 + 545, 0, 314, 2, 11, 2056, 2057, 0, 193) ∈ gCL := by decide +kernel
theorem cl_12_551 : (12 * 1000 + 551, 1, 333, 1, 11, 2178, 2180, 161, 193) ∈ gCL := by decide +kernel
theorem cl_12_562 : (12 * 1000 + 562, 1, 326, 2, 11, 2191, 2193, 164, 193) ∈ gCL := by decide +kernel
theorem cl_12_565 : (12 * 1000 + 565, 1, 327, 1, 11, 2195, 2197, 165, 193) ∈ gCL := by decide +kernel
theorem cl_12_568 : (12 * 1000 + 568, 1, 329, 2, 11, 2199, 2201, 166, 193) ∈ gCL := by decide +kernel
theorem cl_12_57 : (12 * 1000 + 57, 1, 253, 1, 11, 1883, 1885, 108, 193) ∈ gCL := by decide +kernel
theorem cl_12_574 : (12 * 1000 + 574, 1, 330, 3, 11, 2154, 2156, 155, 193) ∈ gCL := by decide +kernel
theorem cl_12_577 : (12 * 1000 + 577, 1, 331, 2, 11, 2203, 2205, 167, 193) ∈ gCL := by decide +kernel
theorem cl_12_580 : (12 * 1000 + 580, 1, 332, 2, 11, 2207, 2209, 168, 193) ∈ gCL := by decide +kernel
theorem cl_12_583 : (12 * 1000 + 583, 1, 336, 2, 11, 2211, 2213, 169, 193) ∈ gCL := by decide +kernel
theorem cl_12_586 : (12 * 1000 + 586, 1, 337, 2, 11, 2215, 2217, 170, 193) ∈ gCL := by decide +kernel
theorem cl_12_589 : (12 * 1000 + 589, 1, 304, 1, 11, 2146, 2148, 153, 193) ∈ gCL := by decide +kernel
theorem cl_12_607 : (12 * 1000 + 607, 1, 328, 1, 11, 2142, 2144, 152, 193) ∈ gCL := by decide +kernel
theorem cl_12_61 : (12 * 1000 + 61, 0, 255, 1, 11, 1872, 1873, 0, 193) ∈ gCL := by decide +kernel
theorem cl_12_643 : (12 * 1000 + 643, 1, 335, 2, 11, 2134, 2136, 150, 193) ∈ gCL := by decide +kernel
theorem cl_12_65 : (12 * 1000 + 65, 1, 258, 2, 11, 1879, 1881, 107, 193) ∈ gCL := by decide +kernel
theorem cl_12_655 : (12 * 1000 + 655, 1, 334, 1, 11, 2130, 2132, 149, 193) ∈ gCL := by decide +kernel
theorem cl_12_667 : (12 * 1000 + 667, 1, 338, 0, 11, 2126, 2128, 148, 193) ∈ gCL := by decide +kernel
theorem cl_12_670 : (12 * 1000 + 670, 1, 339, 0, 11, 2138, 2140, 151, 193) ∈ gCL := by decide +kernel
theorem cl_12_673 : (12 * 1000 + 673, 1, 340, 0, 11, 2150, 2152, 154, 193) ∈ gCL := by decide +kernel
theorem cl_12_676 : (12 * 1000 + 676, 1, 319, 0, 11, 2158, 2160, 156, 193) ∈ gCL := by decide +kernel
theorem cl_12_679 : (12 * 1000 + 679, 1, 345, 0, 11, 2219, 2221, 171, 193) ∈ gCL := by decide +kernel
theorem cl_12_682 : (12 * 1000 + 682, 1, 283, 0, 11, 2235, 2237, 175, 193) ∈ gCL := by decide +kernel
theorem cl_12_69 : (12 * 1000 + 69, 1, 254, 1, 11, 1903, 1905, 109, 193) ∈ gCL := by decide +kernel
theorem cl_12_691 : (12 * 1000 + 691, 1, 342, 1, 11, 2227, 2229, 173, 193) ∈ gCL := by decide +kernel
theorem cl_12_700 : (12 * 1000 + 700, 1, 343, 1, 11, 2223, 2225, 172, 193) ∈ gCL := by decide +kernel
theorem cl_12_709 : (12 * 1000 + 709, 1, 344, 2, 11, 2231, 2233, 174, 193) ∈ gCL := by decide +kernel
theorem cl_12_73 : (12 * 1000 + 73, 1, 256, 3, 11, 1908, 1910, 110, 193) ∈ gCL := by decide +kernel
theorem cl_12_742 : (12 * 1000 + 742, 1, 347, 4, 11, 2059, 2061, 142, 193) ∈ gCL := by decide +kernel
theorem cl_12_745 : (12 * 1000 + 745, 1, 348, 3, 11, 2063, 2065, 143, 193) ∈ gCL := by decide +kernel
theorem cl_12_757 : (12 * 1000 + 757, 1, 350, 1, 11, 2251, 2253, 177, 193) ∈ gCL := by decide +kernel
theorem cl_12_80 : (12 * 1000 + 80, 1, 265, 1, 11, 1916, 1918, 111, 193) ∈ gCL := by decide +kernel
theorem cl_12_84 : (12 * 1000 + 84, 1, 299, 1, 11, 1992, 1994, 126, 193) ∈ gCL := by decide +kernel
theorem cl_12_98 : (12 * 1000 + 98, 0, 266, 1, 11, 1921, 1922, 0, 193) ∈ gCL := by decide +kernel
theorem cl_15_13 : (15 * 1000 + 13, 0, 367, 3, 0, 1283, 1284, 0, 196) ∈ gCL := by decide +kernel
theorem cl_1_101 : (1 * 1000 + 101, 1, 11, 3, 0, 1010, 1012, 20, 192) ∈ gCL := by decide +kernel
theorem cl_1_105 : (1 * 1000 + 105, 1, 75, 1, 1, 995, 790, 791, 181) ∈ gCL := by decide +kernel
theorem cl_1_112 : (1 * 1000 + 112, 1, 161, 5, 7, 1069, 1064, 1065, 186) ∈ gCL := by decide +kernel
theorem cl_1_116 : (1 * 1000 + 116, 1, 117, 2, 5, 1014, 1015, 1016, 190) ∈ gCL := by decide +kernel
theorem cl_1_122 : (1 * 1000 + 122, 1, 65, 1, 1, 1026, 695, 696, 181) ∈ gCL := by decide +kernel
theorem cl_1_125 : (1 * 1000 + 125, 1, 119, 0, 5, 1027, 1028, 1029, 190) ∈ gCL := by decide +kernel
theorem cl_1_128 : (1 * 1000 + 128, 1, 76, 1, 1, 993, 932, 933, 181) ∈ gCL := by decide +kernel
theorem cl_1_131 : (1 * 1000 + 131, 1, 78, 2, 1, 994, 806, 807, 181) ∈ gCL := by decide +kernel
theorem cl_1_135 : (1 * 1000 + 135, 1, 13, 0, 0, 996, 998, 17, 192) ∈ gCL := by decide +kernel
theorem cl_1_138 : (1 * 1000 + 138, 1, 14, 1, 0, 1002, 1004, 18, 192) ∈ gCL := by decide +kernel
theorem cl_1_141 : (1 * 1000 + 141, 1, 15, 0, 0, 1006, 1008, 19, 192) ∈ gCL := by decide +kernel
theorem cl_1_152 : (1 * 1000 + 152, 1, 167, 1, 7, 1475, 1136, 1137, 186) ∈ gCL := by decide +kernel
theorem cl_1_155 : (1 * 1000 + 155, 1, 164, 2, 7, 1484, 1193, 1194, 186) ∈ gCL := by decide +kernel
theorem cl_1_159 : (1 * 1000 + 159, 1, 162, 1, 7, 1485, 1055, 1056, 186) ∈ gCL := by decide +kernel
theorem cl_1_165 : (1 * 1000 + 165, 1, 24, 0, 0, 1529, 1531, 59, 192) ∈ gCL := by decide +kernel
theorem cl_1_168 : (1 * 1000 + 168, 1, 18, 2, 0, 1612, 1614, 78, 192) ∈ gCL := by decide +kernel
theorem cl_1_171 : (1 * 1000 + 171, 1, 25, 0, 0, 1616, 1618, 79, 192) ∈ gCL := by decide +kernel
theorem cl_1_174 : (1 * 1000 + 174, 1, 118, 0, 5, 1709, 1710, 1711, 190) ∈ gCL := by decide +kernel
theorem cl_1_177 : (1 * 1000 + 177, 1, 19, 1, 0, 1713, 1715, 95, 192) ∈ gCL := by decide +kernel
theorem cl_1_180 : (1 * 1000 + 180, 1, 22, 1, 0, 1565, 1567, 68, 192) ∈ gCL := by decide +kernel
theorem cl_1_183 : (1 * 1000 + 183, 1, 40, 3, 0, 1513, 1515, 58, 192) ∈ gCL := by decide +kernel
theorem cl_1_187 : (1 * 1000 + 187, 1, 10, 1, 0, 1486, 986, 987, 192) ∈ gCL := by decide +kernel
theorem cl_1_190 : (1 * 1000 + 190, 1, 17, 0, 0, 1717, 1719, 96, 192) ∈ gCL := by decide +kernel
theorem cl_1_193 : (1 * 1000 + 193, 1, 20, 1, 0, 1537, 1539, 61, 192) ∈ gCL := by decide +kernel
theorem cl_1_196 : (1 * 1000 + 196, 1, 77, 1, 1, 1569, 859, 860, 181) ∈ gCL := by decide +kernel
theorem cl_1_199 : (1 * 1000 + 199, 1, 33, 0, 0, 1533, 1535, 60, 192) ∈ gCL := by decide +kernel
theorem cl_1_202 : (1 * 1000 + 202, 1, 31, 0, 0, 1549, 1551, 64, 192) ∈ gCL := by decide +kernel
theorem cl_1_205 : (1 * 1000 + 205, 1, 52, 0, 0, 1557, 1559, 66, 192) ∈ gCL := by decide +kernel
theorem cl_1_208 : (1 * 1000 + 208, 1, 43, 0, 0, 1588, 1590, 73, 192) ∈ gCL := by decide +kernel
theorem cl_1_211 : (1 * 1000 + 211, 1, 61, 0, 0, 1596, 1598, 75, 192) ∈ gCL := by decide +kernel
theorem cl_1_214 : (1 * 1000 + 214, 1, 41, 0, 0, 1604, 1606, 76, 192) ∈ gCL := by decide +kernel
theorem cl_1_217 : (1 * 1000 + 217, 1, 26, 0, 0, 1608, 1610, 77, 192) ∈ gCL := by decide +kernel
theorem cl_1_220 : (1 * 1000 + 220, 1, 35, 0, 0, 1620, 1622, 80, 192) ∈ gCL := by decide +kernel
theorem cl_1_223 : (1 * 1000 + 223, 1, 39, 0, 0, 1628, 1630, 82, 192) ∈ gCL := by decide +kernel
theorem cl_1_226 : (1 * 1000 + 226, 1, 32, 0, 0, 1632, 1634, 83, 192) ∈ gCL := by decide +kernel
theorem cl_1_229 : (1 * 1000 + 229, 1, 30, 0, 0, 1639, 1641, 84, 192) ∈ gCL := by decide +kernel
theorem cl_1_232 : (1 * 1000 + 232, 1, 58, 0, 0, 1647, 1649, 86, 192) ∈ gCL := by decide +kernel
theorem cl_1_235 : (1 * 1000 + 235, 1, 45, 0, 0, 1664, 1666, 89, 192) ∈ gCL := by decide +kernel
theorem cl_1_238 : (1 * 1000 + 238, 1, 62, 0, 0, 1676, 1678, 92, 192) ∈ gCL := by decide +kernel
theorem cl_1_241 : (1 * 1000 + 241, 1, 42, 0, 0, 1700, 1702, 93, 192) ∈ gCL := by decide +kernel
theorem cl_1_244 : (1 * 1000 + 244, 1, 27, 0, 0, 1705, 1707, 94, 192) ∈ gCL := by decide +kernel
theorem cl_1_247 : (1 * 1000 + 247, 1, 23, 0, 0, 1541, 1543, 62, 192) ∈ gCL := by decide +kernel
theorem cl_1_250 : (1 * 1000 + 250, 1, 28, 2, 0, 1643, 1645, 85, 192) ∈ gCL := by decide +kernel
theorem cl_1_253 : (1 * 1000 + 253, 1, 29, 1, 0, 1496, 1498, 56, 192) ∈ gCL := by decide +kernel
theorem cl_1_256 : (1 * 1000 + 256, 1, 6, 1, 0, 1500, 1501, 1502, 192) ∈ gCL := by decide +kernel
theorem cl_1_259 : (1 * 1000 + 259, 1, 67, 1, 1, 1504, 1023, 1024, 181) ∈ gCL := by decide +kernel
theorem cl_1_262 : (1 * 1000 + 262, 1, 21, 1, 0, 1553, 1555, 65, 192) ∈ gCL := by decide +kernel
theorem cl_1_265 : (1 * 1000 + 265, 1, 73, 2, 1, 1636, 1032, 1033, 181) ∈ gCL := by decide +kernel
theorem cl_1_268 : (1 * 1000 + 268, 1, 66, 1, 1, 1637, 830, 831, 181) ∈ gCL := by decide +kernel
theorem cl_1_275 : (1 * 1000 + 275, 1, 70, 3, 1, 1638, 848, 849, 181) ∈ gCL := by decide +kernel
theorem cl_1_279 : (1 * 1000 + 279, 1, 34, 1, 0, 1545, 1547, 63, 192) ∈ gCL := by decide +kernel
theorem cl_1_282 : (1 * 1000 + 282, 1, 36, 1, 0, 1624, 1626, 81, 192) ∈ gCL := by decide +kernel
theorem cl_1_285 : (1 * 1000 + 285, 1, 37, 1, 0, 1491, 1493, 55, 192) ∈ gCL := by decide +kernel
theorem cl_1_288 : (1 * 1000 + 288, 1, 7, 1, 0, 1517, 1518, 1519, 192) ∈ gCL := by decide +kernel
theorem cl_1_291 : (1 * 1000 + 291, 1, 165, 1, 7, 1521, 1522, 1523, 186) ∈ gCL := by decide +kernel
theorem cl_1_294 : (1 * 1000 + 294, 1, 168, 1, 7, 1479, 1185, 1186, 186) ∈ gCL := by decide +kernel
theorem cl_1_297 : (1 * 1000 + 297, 1, 170, 2, 7, 1704, 1157, 1158, 186) ∈ gCL := by decide +kernel
theorem cl_1_300 : (1 * 1000 + 300, 1, 44, 2, 0, 1592, 1594, 74, 192) ∈ gCL := by decide +kernel
theorem cl_1_303 : (1 * 1000 + 303, 1, 47, 0, 0, 1668, 1670, 90, 192) ∈ gCL := by decide +kernel
theorem cl_1_306 : (1 * 1000 + 306, 1, 46, 1, 0, 1672, 1674, 91, 192) ∈ gCL := by decide +kernel
theorem cl_1_309 : (1 * 1000 + 309, 1, 49, 2, 0, 1509, 1511, 57, 192) ∈ gCL := by decide +kernel
theorem cl_1_313 : (1 * 1000 + 313, 0, 363, 2, 0, 1476, 1477, 0, 195) ∈ gCL := by decide +kernel
theorem cl_1_318 : (1 * 1000 + 318, 1, 50, 1, 0, 1471, 1472, 1473, 192) ∈ gCL := by decide +kernel
theorem cl_1_321 : (1 * 1000 + 321, 1, 53, 0, 0, 1561, 1563, 67, 192) ∈ gCL := by decide +kernel
theorem cl_1_324 : (1 * 1000 + 324, 1, 57, 1, 0, 1575, 1577, 70, 192) ∈ gCL := by decide +kernel
theorem cl_1_327 : (1 * 1000 + 327, 1, 55, 1, 0, 1584, 1586, 72, 192) ∈ gCL := by decide +kernel
theorem cl_1_330 : (1 * 1000 + 330, 1, 54, 1, 0, 1570, 1572, 69, 192) ∈ gCL := by decide +kernel
theorem cl_1_336 : (1 * 1000 + 336, 1, 172, 2, 7, 1583, 1447, 1448, 186) ∈ gCL := by decide +kernel
theorem cl_1_341 : (1 * 1000 + 341, 1, 56, 1, 0, 1579, 1581, 71, 192) ∈ gCL := by decide +kernel
theorem cl_1_344 : (1 * 1000 + 344, 1, 163, 0, 7, 1651, 1173, 1174, 186) ∈ gCL := by decide +kernel
theorem cl_1_347 : (1 * 1000 + 347, 1, 59, 1, 0, 1652, 1654, 87, 192) ∈ gCL := by decide +kernel
theorem cl_1_350 : (1 * 1000 + 350, 1, 60, 0, 0, 1660, 1662, 88, 192) ∈ gCL := by decide +kernel
theorem cl_1_353 : (1 * 1000 + 353, 1, 169, 2, 7, 1656, 1657, 1658, 186) ∈ gCL := by decide +kernel
theorem cl_1_360 : (1 * 1000 + 360, 1, 176, 1, 8, 1600, 1601, 1602, 191) ∈ gCL := by decide +kernel
theorem cl_1_371 : (1 * 1000 + 371, 1, 177, 1, 8, 1680, 1681, 1682, 191) ∈ gCL := by decide +kernel
theorem cl_1_374 : (1 * 1000 + 374, 1, 120, 3, 5, 1684, 1685, 1686, 190) ∈ gCL := by decide +kernel
theorem cl_1_378 : (1 * 1000 + 378, 1, 179, 1, 8, 1690, 1691, 1692, 191) ∈ gCL := by decide +kernel
theorem cl_1_381 : (1 * 1000 + 381, 1, 174, 1, 8, 1695, 1696, 1697, 191) ∈ gCL := by decide +kernel
theorem cl_1_62 : (1 * 1000 + 62, 1, 159, 0, 7, 939, 940, 941, 186) ∈ gCL := by decide +kernel
theorem cl_1_93 : (1 * 1000 + 93, 1, 8, 1, 0, 1480, 1482, 54, 192) ∈ gCL := by decide +kernel
theorem cl_1_97 : (1 * 1000 + 97, 1, 12, 0, 0, 989, 991, 16, 192) ∈ gCL := by decide +kernel
theorem cl_2_23 : (2 * 1000 + 23, 1, 65, 1, 1, 694, 695, 696, 181) ∈ gCL := by decide +kernel
theorem cl_2_33 : (2 * 1000 + 33, 1, 70, 3, 1, 847, 848, 849, 181) ∈ gCL := by decide +kernel
theorem cl_2_37 : (2 * 1000 + 37, 1, 78, 2, 1, 1039, 806, 807, 181) ∈ gCL := by decide +kernel
theorem cl_2_40 : (2 * 1000 + 40, 1, 66, 1, 1, 1040, 830, 831, 181) ∈ gCL := by decide +kernel
theorem cl_2_46 : (2 * 1000 + 46, 1, 75, 1, 1, 862, 790, 791, 181) ∈ gCL := by decide +kernel
theorem cl_3_100 : (3 * 1000 + 100, 1, 162, 1, 7, 1242, 1055, 1056, 186) ∈ gCL := by decide +kernel
theorem cl_3_103 : (3 * 1000 + 103, 1, 161, 5, 7, 1243, 1064, 1065, 186) ∈ gCL := by decide +kernel
theorem cl_3_107 : (3 * 1000 + 107, 1, 90, 1, 2, 1244, 1246, 42, 185) ∈ gCL := by decide +kernel
theorem cl_3_110 : (3 * 1000 + 110, 1, 91, 1, 2, 1248, 1250, 43, 185) ∈ gCL := by decide +kernel
theorem cl_3_113 : (3 * 1000 + 113, 1, 75, 1, 1, 1239, 790, 791, 181) ∈ gCL := by decide +kernel
theorem cl_3_116 : (3 * 1000 + 116, 1, 78, 2, 1, 1240, 806, 807, 181) ∈ gCL := by decide +kernel
theorem cl_3_123 : (3 * 1000 + 123, 1, 92, 2, 2, 1252, 1254, 44, 185) ∈ gCL := by decide +kernel
theorem cl_3_127 : (3 * 1000 + 127, 1, 94, 1, 2, 1261, 1263, 46, 185) ∈ gCL := by decide +kernel
theorem cl_3_130 : (3 * 1000 + 130, 1, 77, 1, 1, 1256, 859, 860, 181) ∈ gCL := by decide +kernel
theorem cl_3_133 : (3 * 1000 + 133, 1, 93, 3, 2, 1257, 1259, 45, 185) ∈ gCL := by decide +kernel
theorem cl_3_55 : (3 * 1000 + 55, 1, 80, 1, 2, 1143, 1144, 1145, 185) ∈ gCL := by decide +kernel
theorem cl_3_59 : (3 * 1000 + 59, 1, 64, 0, 1, 1328, 798, 799, 181) ∈ gCL := by decide +kernel
theorem cl_3_62 : (3 * 1000 + 62, 1, 66, 1, 1, 1329, 830, 831, 181) ∈ gCL := by decide +kernel
theorem cl_3_69 : (3 * 1000 + 69, 1, 65, 1, 1, 1331, 695, 696, 181) ∈ gCL := by decide +kernel
theorem cl_3_72 : (3 * 1000 + 72, 1, 71, 1, 1, 1332, 844, 845, 181) ∈ gCL := by decide +kernel
theorem cl_3_76 : (3 * 1000 + 76, 1, 72, 0, 1, 1333, 1036, 1037, 181) ∈ gCL := by decide +kernel
theorem cl_3_82 : (3 * 1000 + 82, 1, 76, 1, 1, 1234, 932, 933, 181) ∈ gCL := by decide +kernel
theorem cl_3_86 : (3 * 1000 + 86, 1, 89, 1, 2, 1235, 1237, 41, 185) ∈ gCL := by decide +kernel
theorem cl_3_96 : (3 * 1000 + 96, 1, 159, 0, 7, 1241, 940, 941, 186) ∈ gCL := by decide +kernel
theorem cl_4_101 : (4 * 1000 + 101, 1, 75, 1, 1, 1113, 790, 791, 181) ∈ gCL := by decide +kernel
theorem cl_4_104 : (4 * 1000 + 104, 1, 78, 2, 1, 1114, 806, 807, 181) ∈ gCL := by decide +kernel
theorem cl_4_120 : (4 * 1000 + 120, 1, 106, 2, 3, 1226, 1228, 40, 189) ∈ gCL := by decide +kernel
theorem cl_4_124 : (4 * 1000 + 124, 1, 88, 2, 2, 1230, 1231, 1232, 185) ∈ gCL := by decide +kernel
theorem cl_4_55 : (4 * 1000 + 55, 1, 99, 0, 3, 1078, 1080, 23, 189) ∈ gCL := by decide +kernel
theorem cl_4_59 : (4 * 1000 + 59, 1, 100, 0, 3, 1083, 1085, 24, 189) ∈ gCL := by decide +kernel
theorem cl_4_62 : (4 * 1000 + 62, 1, 65, 1, 1, 1082, 695, 696, 181) ∈ gCL := by decide +kernel
theorem cl_4_69 : (4 * 1000 + 69, 0, 364, 1, 0, 1088, 911, 0, 195) ∈ gCL := by decide +kernel
theorem cl_4_81 : (4 * 1000 + 81, 1, 102, 0, 3, 1089, 1091, 25, 189) ∈ gCL := by decide +kernel
theorem cl_4_84 : (4 * 1000 + 84, 1, 101, 0, 3, 1094, 1096, 26, 189) ∈ gCL := by decide +kernel
theorem cl_4_87 : (4 * 1000 + 87, 1, 64, 0, 1, 1093, 798, 799, 181) ∈ gCL := by decide +kernel
theorem cl_4_93 : (4 * 1000 + 93, 1, 74, 1, 1, 1106, 1107, 1108, 181) ∈ gCL := by decide +kernel
theorem cl_4_97 : (4 * 1000 + 97, 1, 76, 1, 1, 1111, 932, 933, 181) ∈ gCL := by decide +kernel
theorem cl_5_31 : (5 * 1000 + 31, 1, 75, 1, 1, 1217, 790, 791, 181) ∈ gCL := by decide +kernel
theorem cl_5_35 : (5 * 1000 + 35, 1, 111, 1, 4, 1218, 1220, 39, 183) ∈ gCL := by decide +kernel
theorem cl_5_39 : (5 * 1000 + 39, 1, 113, 1, 4, 1271, 1272, 1273, 183) ∈ gCL := by decide +kernel
theorem cl_5_42 : (5 * 1000 + 42, 1, 115, 0, 4, 1275, 1277, 47, 183) ∈ gCL := by decide +kernel
theorem cl_5_46 : (5 * 1000 + 46, 0, 368, 4, 0, 1280, 1281, 0, 196) ∈ gCL := by decide +kernel
theorem cl_6_100 : (6 * 1000 + 100, 1, 178, 3, 8, 1042, 1043, 1044, 191) ∈ gCL := by decide +kernel
theorem cl_6_104 : (6 * 1000 + 104, 1, 161, 5, 7, 1068, 1064, 1065, 186) ∈ gCL := by decide +kernel
theorem cl_6_117 : (6 * 1000 + 117, 1, 167, 1, 7, 1688, 1136, 1137, 186) ∈ gCL := by decide +kernel
theorem cl_6_120 : (6 * 1000 + 120, 1, 164, 2, 7, 1689, 1193, 1194, 186) ∈ gCL := by decide +kernel
theorem cl_6_124 : (6 * 1000 + 124, 1, 122, 0, 5, 1729, 1731, 97, 190) ∈ gCL := by decide +kernel
theorem cl_6_135 : (6 * 1000 + 135, 1, 69, 2, 1, 1741, 691, 692, 181) ∈ gCL := by decide +kernel
theorem cl_6_141 : (6 * 1000 + 141, 1, 125, 1, 5, 1742, 1744, 100, 190) ∈ gCL := by decide +kernel
theorem cl_6_144 : (6 * 1000 + 144, 1, 74, 1, 1, 1758, 1107, 1108, 181) ∈ gCL := by decide +kernel
theorem cl_6_149 : (6 * 1000 + 149, 1, 71, 1, 1, 1760, 844, 845, 181) ∈ gCL := by decide +kernel
theorem cl_6_153 : (6 * 1000 + 153, 1, 110, 1, 4, 1761, 1214, 1215, 183) ∈ gCL := by decide +kernel
theorem cl_6_158 : (6 * 1000 + 158, 1, 123, 2, 5, 1733, 1735, 98, 190) ∈ gCL := by decide +kernel
theorem cl_6_162 : (6 * 1000 + 162, 1, 124, 1, 5, 1737, 1739, 99, 190) ∈ gCL := by decide +kernel
theorem cl_6_165 : (6 * 1000 + 165, 1, 126, 3, 5, 1746, 1748, 101, 190) ∈ gCL := by decide +kernel
theorem cl_6_178 : (6 * 1000 + 178, 1, 70, 3, 1, 1757, 848, 849, 181) ∈ gCL := by decide +kernel
theorem cl_6_182 : (6 * 1000 + 182, 1, 162, 1, 7, 1750, 1055, 1056, 186) ∈ gCL := by decide +kernel
theorem cl_6_188 : (6 * 1000 + 188, 1, 127, 2, 5, 1752, 1754, 102, 190) ∈ gCL := by decide +kernel
theorem cl_6_65 : (6 * 1000 + 65, 1, 64, 0, 1, 1018, 798, 799, 181) ∈ gCL := by decide +kernel
theorem cl_6_68 : (6 * 1000 + 68, 1, 66, 1, 1, 1019, 830, 831, 181) ∈ gCL := by decide +kernel
theorem cl_6_78 : (6 * 1000 + 78, 1, 65, 1, 1, 1021, 695, 696, 181) ∈ gCL := by decide +kernel
theorem cl_6_84 : (6 * 1000 + 84, 1, 67, 1, 1, 1022, 1023, 1024, 181) ∈ gCL := by decide +kernel
theorem cl_6_90 : (6 * 1000 + 90, 1, 73, 2, 1, 1031, 1032, 1033, 181) ∈ gCL := by decide +kernel
theorem cl_6_93 : (6 * 1000 + 93, 1, 72, 0, 1, 1035, 1036, 1037, 181) ∈ gCL := by decide +kernel
theorem cl_6_96 : (6 * 1000 + 96, 1, 76, 1, 1, 1041, 932, 933, 181) ∈ gCL := by decide +kernel
theorem cl_7_102 : (7 * 1000 + 102, 1, 110, 1, 4, 1213, 1214, 1215, 183) ∈ gCL := by decide +kernel
theorem cl_7_107 : (7 * 1000 + 107, 1, 136, 0, 6, 1180, 1182, 36, 188) ∈ gCL := by decide +kernel
theorem cl_7_111 : (7 * 1000 + 111, 1, 137, 0, 6, 1188, 1190, 37, 188) ∈ gCL := by decide +kernel
theorem cl_7_114 : (7 * 1000 + 114, 1, 170, 2, 7, 1156, 1157, 1158, 186) ∈ gCL := by decide +kernel
theorem cl_7_117 : (7 * 1000 + 117, 1, 164, 2, 7, 1192, 1193, 1194, 186) ∈ gCL := by decide +kernel
theorem cl_7_125 : (7 * 1000 + 125, 1, 168, 1, 7, 1184, 1185, 1186, 186) ∈ gCL := by decide +kernel
theorem cl_7_129 : (7 * 1000 + 129, 1, 167, 1, 7, 1135, 1136, 1137, 186) ∈ gCL := by decide +kernel
theorem cl_7_132 : (7 * 1000 + 132, 1, 162, 1, 7, 1147, 1055, 1056, 186) ∈ gCL := by decide +kernel
theorem cl_7_140 : (7 * 1000 + 140, 1, 84, 2, 2, 1199, 1200, 1201, 185) ∈ gCL := by decide +kernel
theorem cl_7_146 : (7 * 1000 + 146, 1, 85, 3, 2, 1139, 1140, 1141, 185) ∈ gCL := by decide +kernel
theorem cl_7_150 : (7 * 1000 + 150, 1, 163, 0, 7, 1172, 1173, 1174, 186) ∈ gCL := by decide +kernel
theorem cl_7_157 : (7 * 1000 + 157, 1, 140, 0, 6, 1168, 1170, 35, 188) ∈ gCL := by decide +kernel
theorem cl_7_160 : (7 * 1000 + 160, 1, 144, 4, 6, 1123, 1125, 28, 188) ∈ gCL := by decide +kernel
theorem cl_7_164 : (7 * 1000 + 164, 1, 141, 1, 6, 1164, 1166, 34, 188) ∈ gCL := by decide +kernel
theorem cl_7_167 : (7 * 1000 + 167, 1, 145, 2, 6, 1127, 1129, 29, 188) ∈ gCL := by decide +kernel
theorem cl_7_171 : (7 * 1000 + 171, 1, 147, 2, 6, 1148, 1150, 31, 188) ∈ gCL := by decide +kernel
theorem cl_7_175 : (7 * 1000 + 175, 1, 146, 2, 6, 1160, 1162, 33, 188) ∈ gCL := by decide +kernel
theorem cl_7_178 : (7 * 1000 + 178, 1, 139, 1, 6, 1131, 1133, 30, 188) ∈ gCL := by decide +kernel
theorem cl_7_181 : (7 * 1000 + 181, 1, 138, 0, 6, 1152, 1154, 32, 188) ∈ gCL := by decide +kernel
theorem cl_7_184 : (7 * 1000 + 184, 1, 150, 0, 6, 1770, 1772, 103, 188) ∈ gCL := by decide +kernel
theorem cl_7_187 : (7 * 1000 + 187, 1, 133, 0, 6, 1401, 1403, 52, 188) ∈ gCL := by decide +kernel
theorem cl_7_193 : (7 * 1000 + 193, 1, 142, 0, 6, 1774, 1776, 104, 188) ∈ gCL := by decide +kernel
theorem cl_7_196 : (7 * 1000 + 196, 1, 153, 2, 6, 1396, 1398, 51, 188) ∈ gCL := by decide +kernel
theorem cl_7_200 : (7 * 1000 + 200, 1, 156, 0, 6, 1413, 1415, 53, 188) ∈ gCL := by decide +kernel
theorem cl_7_67 : (7 * 1000 + 67, 1, 159, 0, 7, 1346, 940, 941, 186) ∈ gCL := by decide +kernel
theorem cl_7_74 : (7 * 1000 + 74, 1, 161, 5, 7, 1198, 1064, 1065, 186) ∈ gCL := by decide +kernel
theorem cl_7_78 : (7 * 1000 + 78, 1, 134, 3, 6, 1203, 1205, 38, 188) ∈ gCL := by decide +kernel
theorem cl_7_82 : (7 * 1000 + 82, 1, 64, 0, 1, 1207, 798, 799, 181) ∈ gCL := by decide +kernel
theorem cl_7_85 : (7 * 1000 + 85, 1, 66, 1, 1, 1208, 830, 831, 181) ∈ gCL := by decide +kernel
theorem cl_7_88 : (7 * 1000 + 88, 1, 65, 1, 1, 1209, 695, 696, 181) ∈ gCL := by decide +kernel
theorem cl_7_91 : (7 * 1000 + 91, 1, 71, 1, 1, 1210, 844, 845, 181) ∈ gCL := by decide +kernel
theorem cl_7_95 : (7 * 1000 + 95, 1, 72, 0, 1, 1211, 1036, 1037, 181) ∈ gCL := by decide +kernel
theorem cl_7_98 : (7 * 1000 + 98, 0, 3, 2, 0, 1212, 825, 0, 187) ∈ gCL := by decide +kernel
theorem cl_8_43 : (8 * 1000 + 43, 1, 160, 1, 7, 1067, 1051, 1052, 186) ∈ gCL := by decide +kernel
theorem cl_8_54 : (8 * 1000 + 54, 1, 158, 1, 7, 1058, 1060, 22, 186) ∈ gCL := by decide +kernel
theorem cl_8_57 : (8 * 1000 + 57, 1, 64, 0, 1, 1196, 798, 799, 181) ∈ gCL := by decide +kernel
theorem cl_8_60 : (8 * 1000 + 60, 1, 70, 3, 1, 1197, 848, 849, 181) ∈ gCL := by decide +kernel
theorem cl_8_64 : (8 * 1000 + 64, 1, 171, 2, 7, 1450, 1443, 1444, 186) ∈ gCL := by decide +kernel
theorem cl_9_22 : (9 * 1000 + 22, 1, 163, 0, 7, 1699, 1173, 1174, 186) ∈ gCL := by decide +kernel
theorem cl_9_39 : (9 * 1000 + 39, 1, 175, 1, 8, 1046, 1048, 21, 191) ∈ gCL := by decide +kernel
theorem cl_9_51 : (9 * 1000 + 51, 1, 160, 1, 7, 1050, 1051, 1052, 186) ∈ gCL := by decide +kernel
theorem cl_9_54 : (9 * 1000 + 54, 1, 162, 1, 7, 1054, 1055, 1056, 186) ∈ gCL := by decide +kernel
theorem cl_9_58 : (9 * 1000 + 58, 1, 161, 5, 7, 1063, 1064, 1065, 186) ∈ gCL := by decide +kernel
theorem cl_9_62 : (9 * 1000 + 62, 1, 167, 1, 7, 1694, 1136, 1137, 186) ∈ gCL := by decide +kernel
theorem fl_0_27 : (0 * 1000 + 27, 1, 1, 226) ∈ gFL := by decide +kernel
theorem fl_10_101 : (10 * 1000 + 101, 9, 8, 278) ∈ gFL := by decide +kernel
theorem fl_10_117 : (10 * 1000 + 117, 9, 15, 292) ∈ gFL := by decide +kernel
theorem fl_10_120 : (10 * 1000 + 120, 9, 12, 285) ∈ gFL := by decide +kernel
theorem fl_10_123 : (10 * 1000 + 123, 9, 11, 283) ∈ gFL := by decide +kernel
theorem fl_10_126 : (10 * 1000 + 126, 9, 13, 287) ∈ gFL := by decide +kernel
theorem fl_10_129 : (10 * 1000 + 129, 9, 14, 290) ∈ gFL := by decide +kernel
theorem fl_10_132 : (10 * 1000 + 132, 9, 10, 281) ∈ gFL := by decide +kernel
theorem fl_10_138 : (10 * 1000 + 138, 1, 0, 217) ∈ gFL := by decide +kernel
theorem fl_10_14 : (10 * 1000 + 14, 9, 0, 265) ∈ gFL := by decide +kernel
theorem fl_10_20 : (10 * 1000 + 20, 9, 16, 294) ∈ gFL := by decide +kernel
theorem fl_10_24 : (10 * 1000 + 24, 9, 1, 267) ∈ gFL := by decide +kernel
theorem fl_10_31 : (10 * 1000 + 31, 9, 4, 271) ∈ gFL := by decide +kernel
theorem fl_10_35 : (10 * 1000 + 35, 9, 5, 272) ∈ gFL := by decide +kernel
theorem fl_10_42 : (10 * 1000 + 42, 9, 2, 269) ∈ gFL := by decide +kernel
theorem fl_10_46 : (10 * 1000 + 46, 9, 3, 270) ∈ gFL := by decide +kernel
theorem fl_10_56 : (10 * 1000 + 56, 9, 7, 275) ∈ gFL := by decide +kernel
theorem fl_10_59 : (10 * 1000 + 59, 1, 1, 222) ∈ gFL := by decide +kernel
theorem fl_10_66 : (10 * 1000 + 66, 9, 6, 273) ∈ gFL := by decide +kernel
theorem fl_10_82 : (10 * 1000 + 82, 9, 9, 280) ∈ gFL := by decide +kernel
theorem fl_11_12 : (11 * 1000 + 12, 10, 0, 749) ∈ gFL := by decide +kernel
theorem fl_11_145 : (11 * 1000 + 145, 4, 2, 247) ∈ gFL := by decide +kernel
theorem fl_11_194 : (11 * 1000 + 194, 0, 5, 707) ∈ gFL := by decide +kernel
theorem fl_11_20 : (11 * 1000 + 20, 10, 1, 750) ∈ gFL := by decide +kernel
theorem fl_11_213 : (11 * 1000 + 213, 3, 18, 529) ∈ gFL := by decide +kernel
theorem fl_11_216 : (11 * 1000 + 216, 3, 17, 527) ∈ gFL := by decide +kernel
theorem fl_11_236 : (11 * 1000 + 236, 2, 0, 376) ∈ gFL := by decide +kernel
theorem fl_11_253 : (11 * 1000 + 253, 2, 8, 389) ∈ gFL := by decide +kernel
theorem fl_11_26 : (11 * 1000 + 26, 10, 2, 751) ∈ gFL := by decide +kernel
theorem fl_11_271 : (11 * 1000 + 271, 9, 16, 295) ∈ gFL := by decide +kernel
theorem fl_11_293 : (11 * 1000 + 293, 3, 11, 515) ∈ gFL := by decide +kernel
theorem fl_11_297 : (11 * 1000 + 297, 3, 12, 517) ∈ gFL := by decide +kernel
theorem fl_11_300 : (11 * 1000 + 300, 3, 13, 519) ∈ gFL := by decide +kernel
theorem fl_11_303 : (11 * 1000 + 303, 3, 14, 521) ∈ gFL := by decide +kernel
theorem fl_11_306 : (11 * 1000 + 306, 3, 15, 523) ∈ gFL := by decide +kernel
theorem fl_11_309 : (11 * 1000 + 309, 2, 9, 391) ∈ gFL := by decide +kernel
theorem fl_11_31 : (11 * 1000 + 31, 10, 3, 752) ∈ gFL := by decide +kernel
theorem fl_11_312 : (11 * 1000 + 312, 2, 10, 393) ∈ gFL := by decide +kernel
theorem fl_11_315 : (11 * 1000 + 315, 2, 11, 395) ∈ gFL := by decide +kernel
theorem fl_11_318 : (11 * 1000 + 318, 3, 16, 525) ∈ gFL := by decide +kernel
theorem fl_11_324 : (11 * 1000 + 324, 2, 1, 378) ∈ gFL := by decide +kernel
theorem fl_11_342 : (11 * 1000 + 342, 2, 2, 380) ∈ gFL := by decide +kernel
theorem fl_11_346 : (11 * 1000 + 346, 2, 3, 382) ∈ gFL := by decide +kernel
theorem fl_11_349 : (11 * 1000 + 349, 2, 4, 384) ∈ gFL := by decide +kernel
theorem fl_11_352 : (11 * 1000 + 352, 5, 12, 635) ∈ gFL := by decide +kernel
theorem fl_11_37 : (11 * 1000 + 37, 10, 4, 753) ∈ gFL := by decide +kernel
theorem fl_11_370 : (11 * 1000 + 370, 9, 11, 284) ∈ gFL := by decide +kernel
theorem fl_11_380 : (11 * 1000 + 380, 0, 7, 710) ∈ gFL := by decide +kernel
theorem fl_11_386 : (11 * 1000 + 386, 0, 10, 716) ∈ gFL := by decide +kernel
theorem fl_11_389 : (11 * 1000 + 389, 9, 12, 286) ∈ gFL := by decide +kernel
theorem fl_11_392 : (11 * 1000 + 392, 9, 13, 289) ∈ gFL := by decide +kernel
theorem fl_11_395 : (11 * 1000 + 395, 9, 14, 291) ∈ gFL := by decide +kernel
theorem fl_11_398 : (11 * 1000 + 398, 9, 15, 293) ∈ gFL := by decide +kernel
theorem fl_11_401 : (11 * 1000 + 401, 0, 2, 701) ∈ gFL := by decide +kernel
theorem fl_11_404 : (11 * 1000 + 404, 7, 5, 357) ∈ gFL := by decide +kernel
theorem fl_11_405 : (11 * 1000 + 405, 5, 3, 621) ∈ gFL := by decide +kernel
theorem fl_11_408 : (11 * 1000 + 408, 5, 4, 623) ∈ gFL := by decide +kernel
theorem fl_11_411 : (11 * 1000 + 411, 5, 14, 639) ∈ gFL := by decide +kernel
theorem fl_11_414 : (11 * 1000 + 414, 9, 1, 268) ∈ gFL := by decide +kernel
theorem fl_11_417 : (11 * 1000 + 417, 9, 0, 266) ∈ gFL := by decide +kernel
theorem fl_11_420 : (11 * 1000 + 420, 9, 6, 274) ∈ gFL := by decide +kernel
theorem fl_11_423 : (11 * 1000 + 423, 9, 7, 276) ∈ gFL := by decide +kernel
theorem fl_11_426 : (11 * 1000 + 426, 5, 13, 637) ∈ gFL := by decide +kernel
theorem fl_11_429 : (11 * 1000 + 429, 9, 10, 282) ∈ gFL := by decide +kernel
theorem fl_11_432 : (11 * 1000 + 432, 0, 8, 712) ∈ gFL := by decide +kernel
theorem fl_11_435 : (11 * 1000 + 435, 0, 9, 714) ∈ gFL := by decide +kernel
theorem fl_11_438 : (11 * 1000 + 438, 0, 4, 705) ∈ gFL := by decide +kernel
theorem fl_11_44 : (11 * 1000 + 44, 10, 5, 754) ∈ gFL := by decide +kernel
theorem fl_11_456 : (11 * 1000 + 456, 0, 3, 703) ∈ gFL := by decide +kernel
theorem fl_11_459 : (11 * 1000 + 459, 5, 2, 618) ∈ gFL := by decide +kernel
theorem fl_11_463 : (11 * 1000 + 463, 8, 0, 586) ∈ gFL := by decide +kernel
theorem fl_11_468 : (11 * 1000 + 468, 8, 3, 591) ∈ gFL := by decide +kernel
theorem fl_11_471 : (11 * 1000 + 471, 8, 4, 593) ∈ gFL := by decide +kernel
theorem fl_11_474 : (11 * 1000 + 474, 7, 6, 359) ∈ gFL := by decide +kernel
theorem fl_11_477 : (11 * 1000 + 477, 8, 5, 596) ∈ gFL := by decide +kernel
theorem fl_11_480 : (11 * 1000 + 480, 8, 2, 589) ∈ gFL := by decide +kernel
theorem fl_11_57 : (11 * 1000 + 57, 10, 6, 755) ∈ gFL := by decide +kernel
theorem fl_11_66 : (11 * 1000 + 66, 10, 7, 756) ∈ gFL := by decide +kernel
theorem fl_11_75 : (11 * 1000 + 75, 10, 8, 757) ∈ gFL := by decide +kernel
theorem fl_11_84 : (11 * 1000 + 84, 10, 9, 758) ∈ gFL := by decide +kernel
theorem fl_11_88 : (11 * 1000 + 88, 1, 1, 220) ∈ gFL := by decide +kernel
theorem fl_12_101 : (12 * 1000 + 101, 11, 18, 2322) ∈ gFL := by decide +kernel
theorem fl_12_104 : (12 * 1000 + 104, 11, 13, 2317) ∈ gFL := by decide +kernel
theorem fl_12_107 : (12 * 1000 + 107, 11, 14, 2318) ∈ gFL := by decide +kernel
theorem fl_12_110 : (12 * 1000 + 110, 11, 16, 2320) ∈ gFL := by decide +kernel
theorem fl_12_113 : (12 * 1000 + 113, 11, 12, 2316) ∈ gFL := by decide +kernel
theorem fl_12_120 : (12 * 1000 + 120, 11, 17, 2321) ∈ gFL := by decide +kernel
theorem fl_12_123 : (12 * 1000 + 123, 11, 15, 2319) ∈ gFL := by decide +kernel
theorem fl_12_126 : (12 * 1000 + 126, 11, 78, 2382) ∈ gFL := by decide +kernel
theorem fl_12_133 : (12 * 1000 + 133, 11, 23, 2327) ∈ gFL := by decide +kernel
theorem fl_12_136 : (12 * 1000 + 136, 11, 20, 2324) ∈ gFL := by decide +kernel
theorem fl_12_139 : (12 * 1000 + 139, 11, 19, 2323) ∈ gFL := by decide +kernel
theorem fl_12_142 : (12 * 1000 + 142, 11, 21, 2325) ∈ gFL := by decide +kernel
theorem fl_12_145 : (12 * 1000 + 145, 11, 22, 2326) ∈ gFL := by decide +kernel
theorem fl_12_148 : (12 * 1000 + 148, 11, 104, 2408) ∈ gFL := by decide +kernel
theorem fl_12_154 : (12 * 1000 + 154, 11, 25, 2329) ∈ gFL := by decide +kernel
theorem fl_12_161 : (12 * 1000 + 161, 11, 24, 2328) ∈ gFL := by decide +kernel
theorem fl_12_164 : (12 * 1000 + 164, 11, 27, 2331) ∈ gFL := by decide +kernel
theorem fl_12_167 : (12 * 1000 + 167, 11, 26, 2330) ∈ gFL := by decide +kernel
theorem fl_12_173 : (12 * 1000 + 173, 11, 50, 2354) ∈ gFL := by decide +kernel
theorem fl_12_176 : (12 * 1000 + 176, 11, 51, 2355) ∈ gFL := by decide +kernel
theorem fl_12_179 : (12 * 1000 + 179, 11, 48, 2352) ∈ gFL := by decide +kernel
theorem fl_12_182 : (12 * 1000 + 182, 11, 49, 2353) ∈ gFL := by decide +kernel
theorem fl_12_189 : (12 * 1000 + 189, 11, 35, 2339) ∈ gFL := by decide +kernel
theorem fl_12_192 : (12 * 1000 + 192, 11, 34, 2338) ∈ gFL := by decide +kernel
theorem fl_12_195 : (12 * 1000 + 195, 11, 28, 2332) ∈ gFL := by decide +kernel
theorem fl_12_198 : (12 * 1000 + 198, 11, 41, 2345) ∈ gFL := by decide +kernel
theorem fl_12_201 : (12 * 1000 + 201, 11, 40, 2344) ∈ gFL := by decide +kernel
theorem fl_12_204 : (12 * 1000 + 204, 11, 30, 2334) ∈ gFL := by decide +kernel
theorem fl_12_207 : (12 * 1000 + 207, 11, 44, 2348) ∈ gFL := by decide +kernel
theorem fl_12_210 : (12 * 1000 + 210, 11, 45, 2349) ∈ gFL := by decide +kernel
theorem fl_12_213 : (12 * 1000 + 213, 11, 43, 2347) ∈ gFL := by decide +kernel
theorem fl_12_216 : (12 * 1000 + 216, 11, 33, 2337) ∈ gFL := by decide +kernel
theorem fl_12_219 : (12 * 1000 + 219, 11, 42, 2346) ∈ gFL := by decide +kernel
theorem fl_12_222 : (12 * 1000 + 222, 11, 47, 2351) ∈ gFL := by decide +kernel
theorem fl_12_225 : (12 * 1000 + 225, 11, 46, 2350) ∈ gFL := by decide +kernel
theorem fl_12_232 : (12 * 1000 + 232, 11, 31, 2335) ∈ gFL := by decide +kernel
theorem fl_12_235 : (12 * 1000 + 235, 11, 29, 2333) ∈ gFL := by decide +kernel
theorem fl_12_238 : (12 * 1000 + 238, 11, 39, 2343) ∈ gFL := by decide +kernel
theorem fl_12_24 : (12 * 1000 + 24, 11, 3, 2307) ∈ gFL := by decide +kernel
theorem fl_12_250 : (12 * 1000 + 250, 11, 37, 2341) ∈ gFL := by decide +kernel
theorem fl_12_253 : (12 * 1000 + 253, 11, 38, 2342) ∈ gFL := by decide +kernel
theorem fl_12_27 : (12 * 1000 + 27, 11, 2, 2306) ∈ gFL := by decide +kernel
theorem fl_12_275 : (12 * 1000 + 275, 11, 32, 2336) ∈ gFL := by decide +kernel
theorem fl_12_281 : (12 * 1000 + 281, 11, 36, 2340) ∈ gFL := by decide +kernel
theorem fl_12_294 : (12 * 1000 + 294, 11, 58, 2362) ∈ gFL := by decide +kernel
theorem fl_12_3 : (12 * 1000 + 3, 11, 1, 2305) ∈ gFL := by decide +kernel
theorem fl_12_300 : (12 * 1000 + 300, 11, 54, 2358) ∈ gFL := by decide +kernel
theorem fl_12_303 : (12 * 1000 + 303, 11, 52, 2356) ∈ gFL := by decide +kernel
theorem fl_12_306 : (12 * 1000 + 306, 11, 53, 2357) ∈ gFL := by decide +kernel
theorem fl_12_309 : (12 * 1000 + 309, 11, 55, 2359) ∈ gFL := by decide +kernel
theorem fl_12_312 : (12 * 1000 + 312, 11, 56, 2360) ∈ gFL := by decide +kernel
theorem fl_12_315 : (12 * 1000 + 315, 11, 57, 2361) ∈ gFL := by decide +kernel
theorem fl_12_328 : (12 * 1000 + 328, 11, 73, 2377) ∈ gFL := by decide +kernel
theorem fl_12_331 : (12 * 1000 + 331, 11, 64, 2368) ∈ gFL := by decide +kernel
theorem fl_12_334 : (12 * 1000 + 334, 11, 65, 2369) ∈ gFL := by decide +kernel
theorem fl_12_337 : (12 * 1000 + 337, 11, 66, 2370) ∈ gFL := by decide +kernel
theorem fl_12_340 : (12 * 1000 + 340, 11, 62, 2366) ∈ gFL := by decide +kernel
theorem fl_12_343 : (12 * 1000 + 343, 11, 63, 2367) ∈ gFL := by decide +kernel
theorem fl_12_350 : (12 * 1000 + 350, 11, 59, 2363) ∈ gFL := by decide +kernel
theorem fl_12_353 : (12 * 1000 + 353, 11, 60, 2364) ∈ gFL := by decide +kernel
theorem fl_12_356 : (12 * 1000 + 356, 11, 61, 2365) ∈ gFL := by decide +kernel
theorem fl_12_362 : (12 * 1000 + 362, 11, 67, 2371) ∈ gFL := by decide +kernel
theorem fl_12_365 : (12 * 1000 + 365, 11, 68, 2372) ∈ gFL := by decide +kernel
theorem fl_12_368 : (12 * 1000 + 368, 11, 70, 2374) ∈ gFL := by decide +kernel
theorem fl_12_371 : (12 * 1000 + 371, 11, 71, 2375) ∈ gFL := by decide +kernel
theorem fl_12_374 : (12 * 1000 + 374, 11, 72, 2376) ∈ gFL := by decide +kernel
theorem fl_12_381 : (12 * 1000 + 381, 11, 74, 2378) ∈ gFL := by decide +kernel
theorem fl_12_384 : (12 * 1000 + 384, 11, 69, 2373) ∈ gFL := by decide +kernel
theorem fl_12_387 : (12 * 1000 + 387, 11, 75, 2379) ∈ gFL := by decide +kernel
theorem fl_12_390 : (12 * 1000 + 390, 11, 76, 2380) ∈ gFL := by decide +kernel
theorem fl_12_396 : (12 * 1000 + 396, 11, 79, 2383) ∈ gFL := by decide +kernel
theorem fl_12_399 : (12 * 1000 + 399, 11, 80, 2384) ∈ gFL := by decide +kernel
theorem fl_12_40 : (12 * 1000 + 40, 11, 4, 2308) ∈ gFL := by decide +kernel
theorem fl_12_402 : (12 * 1000 + 402, 11, 130, 2434) ∈ gFL := by decide +kernel
theorem fl_12_405 : (12 * 1000 + 405, 11, 77, 2381) ∈ gFL := by decide +kernel
theorem fl_12_408 : (12 * 1000 + 408, 11, 82, 2386) ∈ gFL := by decide +kernel
theorem fl_12_411 : (12 * 1000 + 411, 11, 81, 2385) ∈ gFL := by decide +kernel
theorem fl_12_414 : (12 * 1000 + 414, 11, 83, 2387) ∈ gFL := by decide +kernel
theorem fl_12_417 : (12 * 1000 + 417, 11, 92, 2396) ∈ gFL := by decide +kernel
theorem fl_12_426 : (12 * 1000 + 426, 11, 86, 2390) ∈ gFL := by decide +kernel
theorem fl_12_429 : (12 * 1000 + 429, 11, 87, 2391) ∈ gFL := by decide +kernel
theorem fl_12_432 : (12 * 1000 + 432, 11, 84, 2388) ∈ gFL := by decide +kernel
theorem fl_12_435 : (12 * 1000 + 435, 11, 85, 2389) ∈ gFL := by decide +kernel
theorem fl_12_438 : (12 * 1000 + 438, 11, 96, 2400) ∈ gFL := by decide +kernel
theorem fl_12_441 : (12 * 1000 + 441, 11, 97, 2401) ∈ gFL := by decide +kernel
theorem fl_12_444 : (12 * 1000 + 444, 11, 91, 2395) ∈ gFL := by decide +kernel
theorem fl_12_447 : (12 * 1000 + 447, 11, 94, 2398) ∈ gFL := by decide +kernel
theorem fl_12_450 : (12 * 1000 + 450, 11, 95, 2399) ∈ gFL := by decide +kernel
theorem fl_12_456 : (12 * 1000 + 456, 11, 93, 2397) ∈ gFL := by decide +kernel
theorem fl_12_459 : (12 * 1000 + 459, 11, 98, 2402) ∈ gFL := by decide +kernel
theorem fl_12_46 : (12 * 1000 + 46, 11, 5, 2309) ∈ gFL := by decide +kernel
theorem fl_12_462 : (12 * 1000 + 462, 11, 99, 2403) ∈ gFL := by decide +kernel
theorem fl_12_465 : (12 * 1000 + 465, 11, 100, 2404) ∈ gFL := by decide +kernel
theorem fl_12_492 : (12 * 1000 + 492, 11, 101, 2405) ∈ gFL := by decide +kernel
theorem fl_12_495 : (12 * 1000 + 495, 11, 102, 2406) ∈ gFL := by decide +kernel
theorem fl_12_498 : (12 * 1000 + 498, 11, 103, 2407) ∈ gFL := by decide +kernel
theorem fl_12_50 : (12 * 1000 + 50, 11, 6, 2310) ∈ gFL := by decide +kernel
theorem fl_12_507 : (12 * 1000 + 507, 11, 106, 2410) ∈ gFL := by decide +kernel
theorem fl_12_510 : (12 * 1000 + 510, 11, 107, 2411) ∈ gFL := by decide +kernel
theorem fl_12_513 : (12 * 1000 + 513, 11, 105, 2409) ∈ gFL := by decide +kernel
theorem fl_12_527 : (12 * 1000 + 527, 11, 108, 2412) ∈ gFL := by decide +kernel
theorem fl_12_530 : (12 * 1000 + 530, 11, 109, 2413) ∈ gFL := by decide +kernel
theorem fl_12_536 : (12 * 1000 + 536, 11, 116, 2420) ∈ gFL := by decide +kernel
theorem fl_12_54 : (12 * 1000 + 54, 11, 7, 2311) ∈ gFL := by decide +kernel
theorem fl_12_548 : (12 * 1000 + 548, 11, 120, 2424) ∈ gFL := by decide +kernel
theorem fl_12_554 : (12 * 1000 + 554, 11, 131, 2435) ∈ gFL := by decide +kernel
theorem fl_12_559 : (12 * 1000 + 559, 11, 90, 2394) ∈ gFL := by decide +kernel
theorem fl_12_571 : (12 * 1000 + 571, 11, 115, 2419) ∈ gFL := by decide +kernel
theorem fl_12_592 : (12 * 1000 + 592, 11, 114, 2418) ∈ gFL := by decide +kernel
theorem fl_12_595 : (12 * 1000 + 595, 11, 112, 2416) ∈ gFL := by decide +kernel
theorem fl_12_598 : (12 * 1000 + 598, 11, 113, 2417) ∈ gFL := by decide +kernel
theorem fl_12_601 : (12 * 1000 + 601, 11, 110, 2414) ∈ gFL := by decide +kernel
theorem fl_12_604 : (12 * 1000 + 604, 11, 111, 2415) ∈ gFL := by decide +kernel
theorem fl_12_610 : (12 * 1000 + 610, 11, 117, 2421) ∈ gFL := by decide +kernel
theorem fl_12_613 : (12 * 1000 + 613, 11, 119, 2423) ∈ gFL := by decide +kernel
theorem fl_12_616 : (12 * 1000 + 616, 11, 118, 2422) ∈ gFL := by decide +kernel
theorem fl_12_619 : (12 * 1000 + 619, 11, 121, 2425) ∈ gFL := by decide +kernel
theorem fl_12_622 : (12 * 1000 + 622, 11, 122, 2426) ∈ gFL := by decide +kernel
theorem fl_12_625 : (12 * 1000 + 625, 11, 123, 2427) ∈ gFL := by decide +kernel
theorem fl_12_628 : (12 * 1000 + 628, 11, 124, 2428) ∈ gFL := by decide +kernel
theorem fl_12_631 : (12 * 1000 + 631, 11, 125, 2429) ∈ gFL := by decide +kernel
theorem fl_12_634 : (12 * 1000 + 634, 11, 126, 2430) ∈ gFL := by decide +kernel
theorem fl_12_637 : (12 * 1000 + 637, 11, 127, 2431) ∈ gFL := by decide +kernel
theorem fl_12_640 : (12 * 1000 + 640, 11, 134, 2438) ∈ gFL := by decide +kernel
theorem fl_12_646 : (12 * 1000 + 646, 11, 132, 2436) ∈ gFL := by decide +kernel
theorem fl_12_649 : (12 * 1000 + 649, 11, 133, 2437) ∈ gFL := by decide +kernel
theorem fl_12_652 : (12 * 1000 + 652, 11, 128, 2432) ∈ gFL := by decide +kernel
theorem fl_12_658 : (12 * 1000 + 658, 11, 129, 2433) ∈ gFL := by decide +kernel
theorem fl_12_661 : (12 * 1000 + 661, 11, 89, 2393) ∈ gFL := by decide +kernel
theorem fl_12_664 : (12 * 1000 + 664, 11, 88, 2392) ∈ gFL := by decide +kernel
theorem fl_12_685 : (12 * 1000 + 685, 11, 137, 2441) ∈ gFL := by decide +kernel
theorem fl_12_688 : (12 * 1000 + 688, 11, 136, 2440) ∈ gFL := by decide +kernel
theorem fl_12_694 : (12 * 1000 + 694, 11, 138, 2442) ∈ gFL := by decide +kernel
theorem fl_12_697 : (12 * 1000 + 697, 11, 135, 2439) ∈ gFL := by decide +kernel
theorem fl_12_7 : (12 * 1000 + 7, 11, 0, 2304) ∈ gFL := by decide +kernel
theorem fl_12_703 : (12 * 1000 + 703, 11, 141, 2445) ∈ gFL := by decide +kernel
theorem fl_12_706 : (12 * 1000 + 706, 11, 142, 2446) ∈ gFL := by decide +kernel
theorem fl_12_712 : (12 * 1000 + 712, 11, 139, 2443) ∈ gFL := by decide +kernel
theorem fl_12_715 : (12 * 1000 + 715, 11, 140, 2444) ∈ gFL := by decide +kernel
theorem fl_12_718 : (12 * 1000 + 718, 11, 143, 2447) ∈ gFL := by decide +kernel
theorem fl_12_721 : (12 * 1000 + 721, 11, 144, 2448) ∈ gFL := by decide +kernel
theorem fl_12_724 : (12 * 1000 + 724, 11, 147, 2451) ∈ gFL := by decide +kernel
theorem fl_12_727 : (12 * 1000 + 727, 11, 148, 2452) ∈ gFL := by decide +kernel
theorem fl_12_730 : (12 * 1000 + 730, 11, 149, 2453) ∈ gFL := by decide +kernel
theorem fl_12_733 : (12 * 1000 + 733, 11, 150, 2454) ∈ gFL := by decide +kernel
theorem fl_12_736 : (12 * 1000 + 736, 11, 145, 2449) ∈ gFL := by decide +kernel
theorem fl_12_739 : (12 * 1000 + 739, 11, 146, 2450) ∈ gFL := by decide +kernel
theorem fl_12_748 : (12 * 1000 + 748, 11, 151, 2455) ∈ gFL := by decide +kernel
theorem fl_12_751 : (12 * 1000 + 751, 11, 153, 2457) ∈ gFL := by decide +kernel
theorem fl_12_754 : (12 * 1000 + 754, 11, 152, 2456) ∈ gFL := by decide +kernel
theorem fl_12_77 : (12 * 1000 + 77, 11, 8, 2312) ∈ gFL := by decide +kernel
theorem fl_12_87 : (12 * 1000 + 87, 11, 9, 2313) ∈ gFL := by decide +kernel
theorem fl_12_91 : (12 * 1000 + 91, 11, 11, 2315) ∈ gFL := by decide +kernel
theorem fl_12_94 : (12 * 1000 + 94, 11, 10, 2314) ∈ gFL := by decide +kernel
theorem fl_1_109 : (1 * 1000 + 109, 1, 1, 229) ∈ gFL := by decide +kernel
theorem fl_1_119 : (1 * 1000 + 119, 5, 5, 626) ∈ gFL := by decide +kernel
theorem fl_1_16 : (1 * 1000 + 16, 0, 2, 700) ∈ gFL := by decide +kernel
theorem fl_1_162 : (1 * 1000 + 162, 9, 13, 288) ∈ gFL := by decide +kernel
theorem fl_1_20 : (1 * 1000 + 20, 0, 3, 702) ∈ gFL := by decide +kernel
theorem fl_1_23 : (1 * 1000 + 23, 0, 4, 704) ∈ gFL := by decide +kernel
theorem fl_1_271 : (1 * 1000 + 271, 1, 0, 218) ∈ gFL := by decide +kernel
theorem fl_1_31 : (1 * 1000 + 31, 0, 5, 706) ∈ gFL := by decide +kernel
theorem fl_1_35 : (1 * 1000 + 35, 0, 6, 708) ∈ gFL := by decide +kernel
theorem fl_1_356 : (1 * 1000 + 356, 5, 2, 619) ∈ gFL := by decide +kernel
theorem fl_1_365 : (1 * 1000 + 365, 5, 4, 624) ∈ gFL := by decide +kernel
theorem fl_1_368 : (1 * 1000 + 368, 8, 4, 594) ∈ gFL := by decide +kernel
theorem fl_1_38 : (1 * 1000 + 38, 0, 7, 709) ∈ gFL := by decide +kernel
theorem fl_1_42 : (1 * 1000 + 42, 0, 8, 711) ∈ gFL := by decide +kernel
theorem fl_1_45 : (1 * 1000 + 45, 0, 9, 713) ∈ gFL := by decide +kernel
theorem fl_1_48 : (1 * 1000 + 48, 0, 10, 715) ∈ gFL := by decide +kernel
theorem fl_1_51 : (1 * 1000 + 51, 0, 0, 698) ∈ gFL := by decide +kernel
theorem fl_1_55 : (1 * 1000 + 55, 0, 1, 699) ∈ gFL := by decide +kernel
theorem fl_1_66 : (1 * 1000 + 66, 9, 8, 277) ∈ gFL := by decide +kernel
theorem fl_1_72 : (1 * 1000 + 72, 9, 9, 279) ∈ gFL := by decide +kernel
theorem fl_1_75 : (1 * 1000 + 75, 7, 5, 352) ∈ gFL := by decide +kernel
theorem fl_1_78 : (1 * 1000 + 78, 5, 12, 634) ∈ gFL := by decide +kernel
theorem fl_1_83 : (1 * 1000 + 83, 0, 11, 717) ∈ gFL := by decide +kernel
theorem fl_1_86 : (1 * 1000 + 86, 0, 12, 718) ∈ gFL := by decide +kernel
theorem fl_1_89 : (1 * 1000 + 89, 0, 13, 719) ∈ gFL := by decide +kernel
theorem fl_2_13 : (2 * 1000 + 13, 1, 0, 214) ∈ gFL := by decide +kernel
theorem fl_2_19 : (2 * 1000 + 19, 1, 1, 219) ∈ gFL := by decide +kernel
theorem fl_3_12 : (3 * 1000 + 12, 2, 0, 375) ∈ gFL := by decide +kernel
theorem fl_3_120 : (3 * 1000 + 120, 2, 11, 394) ∈ gFL := by decide +kernel
theorem fl_3_23 : (3 * 1000 + 23, 2, 1, 377) ∈ gFL := by decide +kernel
theorem fl_3_29 : (3 * 1000 + 29, 2, 2, 379) ∈ gFL := by decide +kernel
theorem fl_3_33 : (3 * 1000 + 33, 2, 3, 381) ∈ gFL := by decide +kernel
theorem fl_3_36 : (3 * 1000 + 36, 2, 4, 383) ∈ gFL := by decide +kernel
theorem fl_3_39 : (3 * 1000 + 39, 2, 5, 385) ∈ gFL := by decide +kernel
theorem fl_3_42 : (3 * 1000 + 42, 2, 6, 386) ∈ gFL := by decide +kernel
theorem fl_3_45 : (3 * 1000 + 45, 2, 7, 387) ∈ gFL := by decide +kernel
theorem fl_3_48 : (3 * 1000 + 48, 2, 12, 396) ∈ gFL := by decide +kernel
theorem fl_3_52 : (3 * 1000 + 52, 2, 8, 388) ∈ gFL := by decide +kernel
theorem fl_3_66 : (3 * 1000 + 66, 1, 1, 230) ∈ gFL := by decide +kernel
theorem fl_3_79 : (3 * 1000 + 79, 7, 5, 356) ∈ gFL := by decide +kernel
theorem fl_3_90 : (3 * 1000 + 90, 2, 10, 392) ∈ gFL := by decide +kernel
theorem fl_3_93 : (3 * 1000 + 93, 2, 9, 390) ∈ gFL := by decide +kernel
theorem fl_4_108 : (4 * 1000 + 108, 3, 14, 520) ∈ gFL := by decide +kernel
theorem fl_4_111 : (4 * 1000 + 111, 3, 16, 524) ∈ gFL := by decide +kernel
theorem fl_4_114 : (4 * 1000 + 114, 3, 18, 528) ∈ gFL := by decide +kernel
theorem fl_4_117 : (4 * 1000 + 117, 3, 17, 526) ∈ gFL := by decide +kernel
theorem fl_4_130 : (4 * 1000 + 130, 3, 15, 522) ∈ gFL := by decide +kernel
theorem fl_4_14 : (4 * 1000 + 14, 3, 2, 505) ∈ gFL := by decide +kernel
theorem fl_4_20 : (4 * 1000 + 20, 3, 3, 506) ∈ gFL := by decide +kernel
theorem fl_4_23 : (4 * 1000 + 23, 3, 4, 507) ∈ gFL := by decide +kernel
theorem fl_4_26 : (4 * 1000 + 26, 3, 5, 508) ∈ gFL := by decide +kernel
theorem fl_4_30 : (4 * 1000 + 30, 3, 0, 503) ∈ gFL := by decide +kernel
theorem fl_4_34 : (4 * 1000 + 34, 3, 1, 504) ∈ gFL := by decide +kernel
theorem fl_4_38 : (4 * 1000 + 38, 3, 6, 509) ∈ gFL := by decide +kernel
theorem fl_4_42 : (4 * 1000 + 42, 3, 7, 510) ∈ gFL := by decide +kernel
theorem fl_4_45 : (4 * 1000 + 45, 3, 9, 512) ∈ gFL := by decide +kernel
theorem fl_4_48 : (4 * 1000 + 48, 3, 10, 513) ∈ gFL := by decide +kernel
theorem fl_4_51 : (4 * 1000 + 51, 3, 8, 511) ∈ gFL := by decide +kernel
theorem fl_4_65 : (4 * 1000 + 65, 1, 1, 227) ∈ gFL := by decide +kernel
theorem fl_4_75 : (4 * 1000 + 75, 3, 11, 514) ∈ gFL := by decide +kernel
theorem fl_4_78 : (4 * 1000 + 78, 3, 12, 516) ∈ gFL := by decide +kernel
theorem fl_4_90 : (4 * 1000 + 90, 3, 13, 518) ∈ gFL := by decide +kernel
theorem fl_5_13 : (5 * 1000 + 13, 4, 0, 244) ∈ gFL := by decide +kernel
theorem fl_5_19 : (5 * 1000 + 19, 4, 1, 245) ∈ gFL := by decide +kernel
theorem fl_5_23 : (5 * 1000 + 23, 4, 2, 246) ∈ gFL := by decide +kernel
theorem fl_5_26 : (5 * 1000 + 26, 1, 1, 223) ∈ gFL := by decide +kernel
theorem fl_6_10 : (6 * 1000 + 10, 5, 2, 617) ∈ gFL := by decide +kernel
theorem fl_6_108 : (6 * 1000 + 108, 5, 14, 638) ∈ gFL := by decide +kernel
theorem fl_6_111 : (6 * 1000 + 111, 8, 0, 585) ∈ gFL := by decide +kernel
theorem fl_6_114 : (6 * 1000 + 114, 7, 5, 353) ∈ gFL := by decide +kernel
theorem fl_6_128 : (6 * 1000 + 128, 5, 17, 642) ∈ gFL := by decide +kernel
theorem fl_6_132 : (6 * 1000 + 132, 5, 15, 640) ∈ gFL := by decide +kernel
theorem fl_6_138 : (6 * 1000 + 138, 5, 16, 641) ∈ gFL := by decide +kernel
theorem fl_6_175 : (6 * 1000 + 175, 1, 0, 216) ∈ gFL := by decide +kernel
theorem fl_6_21 : (6 * 1000 + 21, 5, 3, 620) ∈ gFL := by decide +kernel
theorem fl_6_25 : (6 * 1000 + 25, 5, 4, 622) ∈ gFL := by decide +kernel
theorem fl_6_33 : (6 * 1000 + 33, 5, 5, 625) ∈ gFL := by decide +kernel
theorem fl_6_37 : (6 * 1000 + 37, 5, 6, 627) ∈ gFL := by decide +kernel
theorem fl_6_41 : (6 * 1000 + 41, 5, 7, 628) ∈ gFL := by decide +kernel
theorem fl_6_45 : (6 * 1000 + 45, 5, 8, 629) ∈ gFL := by decide +kernel
theorem fl_6_48 : (6 * 1000 + 48, 5, 9, 630) ∈ gFL := by decide +kernel
theorem fl_6_51 : (6 * 1000 + 51, 5, 10, 631) ∈ gFL := by decide +kernel
theorem fl_6_54 : (6 * 1000 + 54, 5, 11, 632) ∈ gFL := by decide +kernel
theorem fl_6_57 : (6 * 1000 + 57, 5, 0, 615) ∈ gFL := by decide +kernel
theorem fl_6_61 : (6 * 1000 + 61, 5, 1, 616) ∈ gFL := by decide +kernel
theorem fl_6_72 : (6 * 1000 + 72, 5, 13, 636) ∈ gFL := by decide +kernel
theorem fl_6_81 : (6 * 1000 + 81, 5, 12, 633) ∈ gFL := by decide +kernel
theorem fl_6_87 : (6 * 1000 + 87, 1, 1, 221) ∈ gFL := by decide +kernel
theorem fl_7_121 : (7 * 1000 + 121, 6, 10, 447) ∈ gFL := by decide +kernel
theorem fl_7_124 : (7 * 1000 + 124, 7, 5, 355) ∈ gFL := by decide +kernel
theorem fl_7_135 : (7 * 1000 + 135, 6, 9, 446) ∈ gFL := by decide +kernel
theorem fl_7_143 : (7 * 1000 + 143, 6, 14, 451) ∈ gFL := by decide +kernel
theorem fl_7_151 : (7 * 1000 + 151, 6, 17, 454) ∈ gFL := by decide +kernel
theorem fl_7_154 : (7 * 1000 + 154, 6, 18, 455) ∈ gFL := by decide +kernel
theorem fl_7_16 : (7 * 1000 + 16, 6, 2, 439) ∈ gFL := by decide +kernel
theorem fl_7_190 : (7 * 1000 + 190, 6, 16, 453) ∈ gFL := by decide +kernel
theorem fl_7_20 : (7 * 1000 + 20, 6, 3, 440) ∈ gFL := by decide +kernel
theorem fl_7_28 : (7 * 1000 + 28, 6, 4, 441) ∈ gFL := by decide +kernel
theorem fl_7_32 : (7 * 1000 + 32, 6, 5, 442) ∈ gFL := by decide +kernel
theorem fl_7_35 : (7 * 1000 + 35, 6, 6, 443) ∈ gFL := by decide +kernel
theorem fl_7_40 : (7 * 1000 + 40, 6, 7, 444) ∈ gFL := by decide +kernel
theorem fl_7_43 : (7 * 1000 + 43, 6, 8, 445) ∈ gFL := by decide +kernel
theorem fl_7_47 : (7 * 1000 + 47, 6, 11, 448) ∈ gFL := by decide +kernel
theorem fl_7_50 : (7 * 1000 + 50, 6, 12, 449) ∈ gFL := by decide +kernel
theorem fl_7_53 : (7 * 1000 + 53, 6, 13, 450) ∈ gFL := by decide +kernel
theorem fl_7_56 : (7 * 1000 + 56, 6, 15, 452) ∈ gFL := by decide +kernel
theorem fl_7_59 : (7 * 1000 + 59, 6, 0, 437) ∈ gFL := by decide +kernel
theorem fl_7_63 : (7 * 1000 + 63, 6, 1, 438) ∈ gFL := by decide +kernel
theorem fl_7_71 : (7 * 1000 + 71, 1, 1, 224) ∈ gFL := by decide +kernel
theorem fl_8_13 : (8 * 1000 + 13, 7, 0, 346) ∈ gFL := by decide +kernel
theorem fl_8_19 : (8 * 1000 + 19, 7, 1, 347) ∈ gFL := by decide +kernel
theorem fl_8_23 : (8 * 1000 + 23, 7, 2, 348) ∈ gFL := by decide +kernel
theorem fl_8_26 : (8 * 1000 + 26, 7, 3, 349) ∈ gFL := by decide +kernel
theorem fl_8_29 : (8 * 1000 + 29, 7, 4, 350) ∈ gFL := by decide +kernel
theorem fl_8_32 : (8 * 1000 + 32, 7, 5, 351) ∈ gFL := by decide +kernel
theorem fl_8_36 : (8 * 1000 + 36, 7, 6, 358) ∈ gFL := by decide +kernel
theorem fl_8_39 : (8 * 1000 + 39, 1, 1, 225) ∈ gFL := by decide +kernel
theorem fl_8_47 : (8 * 1000 + 47, 1, 0, 215) ∈ gFL := by decide +kernel
theorem fl_9_14 : (9 * 1000 + 14, 8, 0, 584) ∈ gFL := by decide +kernel
theorem fl_9_18 : (9 * 1000 + 18, 8, 1, 587) ∈ gFL := by decide +kernel
theorem fl_9_25 : (9 * 1000 + 25, 8, 3, 590) ∈ gFL := by decide +kernel
theorem fl_9_29 : (9 * 1000 + 29, 8, 4, 592) ∈ gFL := by decide +kernel
theorem fl_9_33 : (9 * 1000 + 33, 8, 2, 588) ∈ gFL := by decide +kernel
theorem fl_9_36 : (9 * 1000 + 36, 8, 5, 595) ∈ gFL := by decide +kernel
theorem fl_9_43 : (9 * 1000 + 43, 7, 5, 354) ∈ gFL := by decide +kernel
theorem fl_9_46 : (9 * 1000 + 46, 1, 1, 228) ∈ gFL := by decide +kernel
theorem ft_0_0 : (∃ n, gty 0 0 = .object n) ∨ ∃ n, gty 0 0 = .array n := Or.inl ⟨_, rfl⟩
theorem ft_0_1 : (∃ n, gty 0 1 = .object n) ∨ ∃ n, gty 0 1 = .array n := Or.inl ⟨_, rfl⟩
theorem ft_0_10 : (∃ n, gty 0 10 = .object n) ∨ ∃ n, gty 0 10 = .array n := Or.inl ⟨_, rfl⟩
theorem ft_0_11 : gty 0 11 = .int ∨ gty 0 11 = .boolean := Or.inl rfl
theorem ft_0_12 : gty 0 12 = .int ∨ gty 0 12 = .boolean := Or.inl rfl
theorem ft_0_13 : gty 0 13 = .int ∨ gty 0 13 = .boolean := Or.inr rfl
theorem ft_0_2 : (∃ n, gty 0 2 = .object n) ∨ ∃ n, gty 0 2 = .array n := Or.inl ⟨_, rfl⟩
theorem ft_0_3 : (∃ n, gty 0 3 = .object n) ∨ ∃ n, gty 0 3 = .array n := Or.inl ⟨_, rfl⟩
theorem ft_0_4 : (∃ n, gty 0 4 = .object n) ∨ ∃ n, gty 0 4 = .array n := Or.inl ⟨_, rfl⟩
theorem ft_0_5 : (∃ n, gty 0 5 = .object n) ∨ ∃ n, gty 0 5 = .array n := Or.inl ⟨_, rfl⟩
theorem ft_0_6 : (∃ n, gty 0 6 = .object n) ∨ ∃ n, gty 0 6 = .array n := Or.inl ⟨_, rfl⟩
theorem ft_0_7 : (∃ n, gty 0 7 = .object n) ∨ ∃ n, gty 0 7 = .array n := Or.inr ⟨_, rfl⟩
theorem ft_0_8 : (∃ n, gty 0 8 = .object n) ∨ ∃ n, gty 0 8 = .array n := Or.inr ⟨_, rfl⟩
theorem ft_0_9 : (∃ n, gty 0 9 = .object n) ∨ ∃ n, gty 0 9 = .array n := Or.inr ⟨_, rfl⟩
theorem ft_10_0 : (∃ n, gty 10 0 = .object n) ∨ ∃ n, gty 10 0 = .array n := Or.inl ⟨_, rfl⟩
theorem ft_10_1 : (∃ n, gty 10 1 = .object n) ∨ ∃ n, gty 10 1 = .array n := Or.inl ⟨_, rfl⟩
theorem ft_10_2 : (∃ n, gty 10 2 = .object n) ∨ ∃ n, gty 10 2 = .array n := Or.inl ⟨_, rfl⟩
theorem ft_10_3 : (∃ n, gty 10 3 = .object n) ∨ ∃ n, gty 10 3 = .array n := Or.inl ⟨_, rfl⟩
theorem ft_10_4 : (∃ n, gty 10 4 = .object n) ∨ ∃ n, gty 10 4 = .array n := Or.inl ⟨_, rfl⟩
theorem ft_10_5 : (∃ n, gty 10 5 = .object n) ∨ ∃ n, gty 10 5 = .array n := Or.inl ⟨_, rfl⟩
theorem ft_10_6 : (∃ n, gty 10 6 = .object n) ∨ ∃ n, gty 10 6 = .array n := Or.inl ⟨_, rfl⟩
theorem ft_10_7 : (∃ n, gty 10 7 = .object n) ∨ ∃ n, gty 10 7 = .array n := Or.inl ⟨_, rfl⟩
theorem ft_10_8 : (∃ n, gty 10 8 = .object n) ∨ ∃ n, gty 10 8 = .array n := Or.inl ⟨_, rfl⟩
theorem ft_10_9 : (∃ n, gty 10 9 = .object n) ∨ ∃ n, gty 10 9 = .array n := Or.inl ⟨_, rfl⟩
theorem ft_11_0 : (∃ n, gty 11 0 = .object n) ∨ ∃ n, gty 11 0 = .array n := Or.inr ⟨_, rfl⟩
theorem ft_11_1 : gty 11 1 = .int ∨ gty 11 1 = .boolean := Or.inl rfl
theorem ft_11_10 : gty 11 10 = .int ∨ gty 11 10 = .boolean := Or.inl rfl
theorem ft_11_100 : (∃ n, gty 11 100 = .object n) ∨ ∃ n, gty 11 100 = .array n := Or.inr ⟨_, rfl⟩
theorem ft_11_101 : (∃ n, gty 11 101 = .object n) ∨ ∃ n, gty 11 101 = .array n := Or.inr ⟨_, rfl⟩
theorem ft_11_102 : (∃ n, gty 11 102 = .object n) ∨ ∃ n, gty 11 102 = .array n := Or.inr ⟨_, rfl⟩
theorem ft_11_103 : (∃ n, gty 11 103 = .object n) ∨ ∃ n, gty 11 103 = .array n := Or.inr ⟨_, rfl⟩
theorem ft_11_104 : gty 11 104 = .int ∨ gty 11 104 = .boolean := Or.inl rfl
theorem ft_11_105 : (∃ n, gty 11 105 = .object n) ∨ ∃ n, gty 11 105 = .array n := Or.inr ⟨_, rfl⟩
theorem ft_11_106 : gty 11 106 = .int ∨ gty 11 106 = .boolean := Or.inl rfl
theorem ft_11_107 : gty 11 107 = .int ∨ gty 11 107 = .boolean := Or.inl rfl
theorem ft_11_108 : (∃ n, gty 11 108 = .object n) ∨ ∃ n, gty 11 108 = .array n := Or.inr ⟨_, rfl⟩
theorem ft_11_109 : (∃ n, gty 11 109 = .object n) ∨ ∃ n, gty 11 109 = .array n := Or.inr ⟨_, rfl⟩
theorem ft_11_11 : gty 11 11 = .int ∨ gty 11 11 = .boolean := Or.inl rfl
theorem ft_11_110 : (∃ n, gty 11 110 = .object n) ∨ ∃ n, gty 11 110 = .array n := Or.inr ⟨_, rfl⟩
theorem ft_11_111 : (∃ n, gty 11 111 = .object n) ∨ ∃ n, gty 11 111 = .array n := Or.inr ⟨_, rfl⟩
theorem ft_11_112 : (∃ n, gty 11 112 = .object n) ∨ ∃ n, gty 11 112 = .array n := Or.inr ⟨_, rfl⟩
theorem ft_11_113 : (∃ n, gty 11 113 = .object n) ∨ ∃ n, gty 11 113 = .array n := Or.inr ⟨_, rfl⟩
theorem ft_11_114 : (∃ n, gty 11 114 = .object n) ∨ ∃ n, gty 11 114 = .array n := Or.inr ⟨_, rfl⟩
theorem ft_11_115 : (∃ n, gty 11 115 = .object n) ∨ ∃ n, gty 11 115 = .array n := Or.inr ⟨_, rfl⟩
theorem ft_11_116 : (∃ n, gty 11 116 = .object n) ∨ ∃ n, gty 11 116 = .array n := Or.inr ⟨_, rfl⟩
theorem ft_11_117 : (∃ n, gty 11 117 = .object n) ∨ ∃ n, gty 11 117 = .array n := Or.inr ⟨_, rfl⟩
theorem ft_11_118 : (∃ n, gty 11 118 = .object n) ∨ ∃ n, gty 11 118 = .array n := Or.inr ⟨_, rfl⟩
theorem ft_11_119 : (∃ n, gty 11 119 = .object n) ∨ ∃ n, gty 11 119 = .array n := Or.inr ⟨_, rfl⟩
theorem ft_11_12 : (∃ n, gty 11 12 = .object n) ∨ ∃ n, gty 11 12 = .array n := Or.inr ⟨_, rfl⟩
theorem ft_11_120 : (∃ n, gty 11 120 = .object n) ∨ ∃ n, gty 11 120 = .array n := Or.inr ⟨_, rfl⟩
theorem ft_11_121 : (∃ n, gty 11 121 = .object n) ∨ ∃ n, gty 11 121 = .array n := Or.inr ⟨_, rfl⟩
theorem ft_11_122 : (∃ n, gty 11 122 = .object n) ∨ ∃ n, gty 11 122 = .array n := Or.inr ⟨_, rfl⟩
theorem ft_11_123 : (∃ n, gty 11 123 = .object n) ∨ ∃ n, gty 11 123 = .array n := Or.inr ⟨_, rfl⟩
theorem ft_11_124 : (∃ n, gty 11 124 = .object n) ∨ ∃ n, gty 11 124 = .array n := Or.inr ⟨_, rfl⟩
theorem ft_11_125 : (∃ n, gty 11 125 = .object n) ∨ ∃ n, gty 11 125 = .array n := Or.inr ⟨_, rfl⟩
theorem ft_11_126 : (∃ n, gty 11 126 = .object n) ∨ ∃ n, gty 11 126 = .array n := Or.inr ⟨_, rfl⟩
theorem ft_11_127 : (∃ n, gty 11 127 = .object n) ∨ ∃ n, gty 11 127 = .array n := Or.inr ⟨_, rfl⟩
theorem ft_11_128 : gty 11 128 = .int ∨ gty 11 128 = .boolean := Or.inr rfl
theorem ft_11_129 : (∃ n, gty 11 129 = .object n) ∨ ∃ n, gty 11 129 = .array n := Or.inr ⟨_, rfl⟩
theorem ft_11_13 : gty 11 13 = .int ∨ gty 11 13 = .boolean := Or.inl rfl
theorem ft_11_130 : gty 11 130 = .int ∨ gty 11 130 = .boolean := Or.inl rfl
theorem ft_11_131 : (∃ n, gty 11 131 = .object n) ∨ ∃ n, gty 11 131 = .array n := Or.inr ⟨_, rfl⟩
theorem ft_11_132 : (∃ n, gty 11 132 = .object n) ∨ ∃ n, gty 11 132 = .array n := Or.inr ⟨_, rfl⟩
theorem ft_11_133 : (∃ n, gty 11 133 = .object n) ∨ ∃ n, gty 11 133 = .array n := Or.inr ⟨_, rfl⟩
theorem ft_11_134 : (∃ n, gty 11 134 = .object n) ∨ ∃ n, gty 11 134 = .array n := Or.inr ⟨_, rfl⟩
theorem ft_11_135 : (∃ n, gty 11 135 = .object n) ∨ ∃ n, gty 11 135 = .array n := Or.inr ⟨_, rfl⟩
theorem ft_11_136 : (∃ n, gty 11 136 = .object n) ∨ ∃ n, gty 11 136 = .array n := Or.inr ⟨_, rfl⟩
theorem ft_11_137 : (∃ n, gty 11 137 = .object n) ∨ ∃ n, gty 11 137 = .array n := Or.inr ⟨_, rfl⟩
theorem ft_11_138 : (∃ n, gty 11 138 = .object n) ∨ ∃ n, gty 11 138 = .array n := Or.inr ⟨_, rfl⟩
theorem ft_11_139 : gty 11 139 = .int ∨ gty 11 139 = .boolean := Or.inl rfl
theorem ft_11_14 : gty 11 14 = .int ∨ gty 11 14 = .boolean := Or.inl rfl
theorem ft_11_140 : (∃ n, gty 11 140 = .object n) ∨ ∃ n, gty 11 140 = .array n := Or.inr ⟨_, rfl⟩
theorem ft_11_141 : gty 11 141 = .int ∨ gty 11 141 = .boolean := Or.inr rfl
theorem ft_11_142 : (∃ n, gty 11 142 = .object n) ∨ ∃ n, gty 11 142 = .array n := Or.inr ⟨_, rfl⟩
theorem ft_11_143 : (∃ n, gty 11 143 = .object n) ∨ ∃ n, gty 11 143 = .array n := Or.inr ⟨_, rfl⟩
theorem ft_11_144 : gty 11 144 = .int ∨ gty 11 144 = .boolean := Or.inl rfl
theorem ft_11_145 : gty 11 145 = .int ∨ gty 11 145 = .boolean := Or.inl rfl
theorem ft_11_146 : gty 11 146 = .int ∨ gty 11 146 = .boolean := Or.inl rfl
theorem ft_11_147 : gty 11 147 = .int ∨ gty 11 147 = .boolean := Or.inl rfl
theorem ft_11_148 : (∃ n, gty 11 148 = .object n) ∨ ∃ n, gty 11 148 = .array n := Or.inr ⟨_, rfl⟩
theorem ft_11_149 : (∃ n, gty 11 149 = .object n) ∨ ∃ n, gty 11 149 = .array n := Or.inr ⟨_, rfl⟩
theorem ft_11_15 : (∃ n, gty 11 15 = .object n) ∨ ∃ n, gty 11 15 = .array n := Or.inr ⟨_, rfl⟩
theorem ft_11_150 : (∃ n, gty 11 150 = .object n) ∨ ∃ n, gty 11 150 = .array n := Or.inr ⟨_, rfl⟩
theorem ft_11_151 : (∃ n, gty 11 151 = .object n) ∨ ∃ n, gty 11 151 = .array n := Or.inr ⟨_, rfl⟩
theorem ft_11_152 : (∃ n, gty 11 152 = .object n) ∨ ∃ n, gty 11 152 = .array n := Or.inr ⟨_, rfl⟩
theorem ft_11_153 : (∃ n, gty 11 153 = .object n) ∨ ∃ n, gty 11 153 = .array n := Or.inr ⟨_, rfl⟩
theorem ft_11_16 : gty 11 16 = .int ∨ gty 11 16 = .boolean := Or.inl rfl
theorem ft_11_17 : gty 11 17 = .int ∨ gty 11 17 = .boolean := Or.inl rfl
theorem ft_11_18 : gty 11 18 = .int ∨ gty 11 18 = .boolean := Or.inl rfl
theorem ft_11_19 : gty 11 19 = .int ∨ gty 11 19 = .boolean := Or.inl rfl
theorem ft_11_2 : (∃ n, gty 11 2 = .object n) ∨ ∃ n, gty 11 2 = .array n := Or.inr ⟨_, rfl⟩
theorem ft_11_20 : gty 11 20 = .int ∨ gty 11 20 = .boolean := Or.inr rfl
theorem ft_11_21 : gty 11 21 = .int ∨ gty 11 21 = .boolean := Or.inr rfl
theorem ft_11_22 : gty 11 22 = .int ∨ gty 11 22 = .boolean := Or.inr rfl
theorem ft_11_23 : gty 11 23 = .int ∨ gty 11 23 = .boolean := Or.inl rfl
theorem ft_11_24 : gty 11 24 = .int ∨ gty 11 24 = .boolean := Or.inl rfl
theorem ft_11_25 : gty 11 25 = .int ∨ gty 11 25 = .boolean := Or.inl rfl
theorem ft_11_26 : (∃ n, gty 11 26 = .object n) ∨ ∃ n, gty 11 26 = .array n := Or.inr ⟨_, rfl⟩
theorem ft_11_27 : gty 11 27 = .int ∨ gty 11 27 = .boolean := Or.inl rfl
theorem ft_11_28 : gty 11 28 = .int ∨ gty 11 28 = .boolean := Or.inl rfl
theorem ft_11_29 : gty 11 29 = .int ∨ gty 11 29 = .boolean := Or.inl rfl
theorem ft_11_3 : (∃ n, gty 11 3 = .object n) ∨ ∃ n, gty 11 3 = .array n := Or.inr ⟨_, rfl⟩
theorem ft_11_30 : gty 11 30 = .int ∨ gty 11 30 = .boolean := Or.inl rfl
theorem ft_11_31 : gty 11 31 = .int ∨ gty 11 31 = .boolean := Or.inl rfl
theorem ft_11_32 : gty 11 32 = .int ∨ gty 11 32 = .boolean := Or.inl rfl
theorem ft_11_33 : gty 11 33 = .int ∨ gty 11 33 = .boolean := Or.inl rfl
theorem ft_11_34 : gty 11 34 = .int ∨ gty 11 34 = .boolean := Or.inl rfl
theorem ft_11_35 : gty 11 35 = .int ∨ gty 11 35 = .boolean := Or.inl rfl
theorem ft_11_36 : gty 11 36 = .int ∨ gty 11 36 = .boolean := Or.inl rfl
theorem ft_11_37 : gty 11 37 = .int ∨ gty 11 37 = .boolean := Or.inl rfl
theorem ft_11_38 : gty 11 38 = .int ∨ gty 11 38 = .boolean := Or.inl rfl
theorem ft_11_39 : (∃ n, gty 11 39 = .object n) ∨ ∃ n, gty 11 39 = .array n := Or.inr ⟨_, rfl⟩
theorem ft_11_4 : (∃ n, gty 11 4 = .object n) ∨ ∃ n, gty 11 4 = .array n := Or.inr ⟨_, rfl⟩
theorem ft_11_40 : (∃ n, gty 11 40 = .object n) ∨ ∃ n, gty 11 40 = .array n := Or.inr ⟨_, rfl⟩
theorem ft_11_41 : gty 11 41 = .int ∨ gty 11 41 = .boolean := Or.inl rfl
theorem ft_11_42 : (∃ n, gty 11 42 = .object n) ∨ ∃ n, gty 11 42 = .array n := Or.inr ⟨_, rfl⟩
theorem ft_11_43 : gty 11 43 = .int ∨ gty 11 43 = .boolean := Or.inl rfl
theorem ft_11_44 : (∃ n, gty 11 44 = .object n) ∨ ∃ n, gty 11 44 = .array n := Or.inr ⟨_, rfl⟩
theorem ft_11_45 : (∃ n, gty 11 45 = .object n) ∨ ∃ n, gty 11 45 = .array n := Or.inr ⟨_, rfl⟩
theorem ft_11_46 : (∃ n, gty 11 46 = .object n) ∨ ∃ n, gty 11 46 = .array n := Or.inr ⟨_, rfl⟩
theorem ft_11_47 : (∃ n, gty 11 47 = .object n) ∨ ∃ n, gty 11 47 = .array n := Or.inr ⟨_, rfl⟩
theorem ft_11_48 : gty 11 48 = .int ∨ gty 11 48 = .boolean := Or.inl rfl
theorem ft_11_49 : gty 11 49 = .int ∨ gty 11 49 = .boolean := Or.inl rfl
theorem ft_11_5 : (∃ n, gty 11 5 = .object n) ∨ ∃ n, gty 11 5 = .array n := Or.inr ⟨_, rfl⟩
theorem ft_11_50 : (∃ n, gty 11 50 = .object n) ∨ ∃ n, gty 11 50 = .array n := Or.inr ⟨_, rfl⟩
theorem ft_11_51 : (∃ n, gty 11 51 = .object n) ∨ ∃ n, gty 11 51 = .array n := Or.inr ⟨_, rfl⟩
theorem ft_11_52 : (∃ n, gty 11 52 = .object n) ∨ ∃ n, gty 11 52 = .array n := Or.inr ⟨_, rfl⟩
theorem ft_11_53 : (∃ n, gty 11 53 = .object n) ∨ ∃ n, gty 11 53 = .array n := Or.inr ⟨_, rfl⟩
theorem ft_11_54 : (∃ n, gty 11 54 = .object n) ∨ ∃ n, gty 11 54 = .array n := Or.inr ⟨_, rfl⟩
theorem ft_11_55 : (∃ n, gty 11 55 = .object n) ∨ ∃ n, gty 11 55 = .array n := Or.inr ⟨_, rfl⟩
theorem ft_11_56 : (∃ n, gty 11 56 = .object n) ∨ ∃ n, gty 11 56 = .array n := Or.inr ⟨_, rfl⟩
theorem ft_11_57 : (∃ n, gty 11 57 = .object n) ∨ ∃ n, gty 11 57 = .array n := Or.inr ⟨_, rfl⟩
theorem ft_11_58 : gty 11 58 = .int ∨ gty 11 58 = .boolean := Or.inl rfl
theorem ft_11_59 : (∃ n, gty 11 59 = .object n) ∨ ∃ n, gty 11 59 = .array n := Or.inr ⟨_, rfl⟩
theorem ft_11_6 : (∃ n, gty 11 6 = .object n) ∨ ∃ n, gty 11 6 = .array n := Or.inr ⟨_, rfl⟩
theorem ft_11_60 : gty 11 60 = .int ∨ gty 11 60 = .boolean := Or.inr rfl
theorem ft_11_61 : gty 11 61 = .int ∨ gty 11 61 = .boolean := Or.inl rfl
theorem ft_11_62 : gty 11 62 = .int ∨ gty 11 62 = .boolean := Or.inl rfl
theorem ft_11_63 : gty 11 63 = .int ∨ gty 11 63 = .boolean := Or.inl rfl
theorem ft_11_64 : gty 11 64 = .int ∨ gty 11 64 = .boolean := Or.inr rfl
theorem ft_11_65 : gty 11 65 = .int ∨ gty 11 65 = .boolean := Or.inl rfl
theorem ft_11_66 : (∃ n, gty 11 66 = .object n) ∨ ∃ n, gty 11 66 = .array n := Or.inr ⟨_, rfl⟩
theorem ft_11_67 : gty 11 67 = .int ∨ gty 11 67 = .boolean := Or.inl rfl
theorem ft_11_68 : gty 11 68 = .int ∨ gty 11 68 = .boolean := Or.inl rfl
theorem ft_11_69 : gty 11 69 = .int ∨ gty 11 69 = .boolean := Or.inl rfl
theorem ft_11_7 : (∃ n, gty 11 7 = .object n) ∨ ∃ n, gty 11 7 = .array n := Or.inr ⟨_, rfl⟩
theorem ft_11_70 : gty 11 70 = .int ∨ gty 11 70 = .boolean := Or.inl rfl
theorem ft_11_71 : gty 11 71 = .int ∨ gty 11 71 = .boolean := Or.inl rfl
theorem ft_11_72 : gty 11 72 = .int ∨ gty 11 72 = .boolean := Or.inl rfl
theorem ft_11_73 : (∃ n, gty 11 73 = .object n) ∨ ∃ n, gty 11 73 = .array n := Or.inr ⟨_, rfl⟩
theorem ft_11_74 : (∃ n, gty 11 74 = .object n) ∨ ∃ n, gty 11 74 = .array n := Or.inr ⟨_, rfl⟩
theorem ft_11_75 : (∃ n, gty 11 75 = .object n) ∨ ∃ n, gty 11 75 = .array n := Or.inr ⟨_, rfl⟩
theorem ft_11_76 : (∃ n, gty 11 76 = .object n) ∨ ∃ n, gty 11 76 = .array n := Or.inr ⟨_, rfl⟩
theorem ft_11_77 : gty 11 77 = .int ∨ gty 11 77 = .boolean := Or.inl rfl
theorem ft_11_78 : (∃ n, gty 11 78 = .object n) ∨ ∃ n, gty 11 78 = .array n := Or.inr ⟨_, rfl⟩
theorem ft_11_79 : (∃ n, gty 11 79 = .object n) ∨ ∃ n, gty 11 79 = .array n := Or.inr ⟨_, rfl⟩
theorem ft_11_8 : (∃ n, gty 11 8 = .object n) ∨ ∃ n, gty 11 8 = .array n := Or.inr ⟨_, rfl⟩
theorem ft_11_80 : gty 11 80 = .int ∨ gty 11 80 = .boolean := Or.inl rfl
theorem ft_11_81 : gty 11 81 = .int ∨ gty 11 81 = .boolean := Or.inl rfl
theorem ft_11_82 : (∃ n, gty 11 82 = .object n) ∨ ∃ n, gty 11 82 = .array n := Or.inr ⟨_, rfl⟩
theorem ft_11_83 : gty 11 83 = .int ∨ gty 11 83 = .boolean := Or.inl rfl
theorem ft_11_84 : (∃ n, gty 11 84 = .object n) ∨ ∃ n, gty 11 84 = .array n := Or.inr ⟨_, rfl⟩
theorem ft_11_85 : (∃ n, gty 11 85 = .object n) ∨ ∃ n, gty 11 85 = .array n := Or.inr ⟨_, rfl⟩
theorem ft_11_86 : gty 11 86 = .int ∨ gty 11 86 = .boolean := Or.inl rfl
theorem ft_11_87 : gty 11 87 = .int ∨ gty 11 87 = .boolean := Or.inl rfl
theorem ft_11_88 : (∃ n, gty 11 88 = .object n) ∨ ∃ n, gty 11 88 = .array n := Or.inr ⟨_, rfl⟩
theorem ft_11_89 : (∃ n, gty 11 89 = .object n) ∨ ∃ n, gty 11 89 = .array n := Or.inr ⟨_, rfl⟩
theorem ft_11_9 : gty 11 9 = .int ∨ gty 11 9 = .boolean := Or.inr rfl
theorem ft_11_90 : gty 11 90 = .int ∨ gty 11 90 = .boolean := Or.inl rfl
theorem ft_11_91 : (∃ n, gty 11 91 = .object n) ∨ ∃ n, gty 11 91 = .array n := Or.inr ⟨_, rfl⟩
theorem ft_11_92 : (∃ n, gty 11 92 = .object n) ∨ ∃ n, gty 11 92 = .array n := Or.inr ⟨_, rfl⟩
theorem ft_11_93 : (∃ n, gty 11 93 = .object n) ∨ ∃ n, gty 11 93 = .array n := Or.inr ⟨_, rfl⟩
theorem ft_11_94 : (∃ n, gty 11 94 = .object n) ∨ ∃ n, gty 11 94 = .array n := Or.inr ⟨_, rfl⟩
theorem ft_11_95 : (∃ n, gty 11 95 = .object n) ∨ ∃ n, gty 11 95 = .array n := Or.inr ⟨_, rfl⟩
theorem ft_11_96 : (∃ n, gty 11 96 = .object n) ∨ ∃ n, gty 11 96 = .array n := Or.inr ⟨_, rfl⟩
theorem ft_11_97 : (∃ n, gty 11 97 = .object n) ∨ ∃ n, gty 11 97 = .array n := Or.inr ⟨_, rfl⟩
theorem ft_11_98 : (∃ n, gty 11 98 = .object n) ∨ ∃ n, gty 11 98 = .array n := Or.inr ⟨_, rfl⟩
theorem ft_11_99 : (∃ n, gty 11 99 = .object n) ∨ ∃ n, gty 11 99 = .array n := Or.inr ⟨_, rfl⟩
theorem ft_1_0 : (∃ n, gty 1 0 = .object n) ∨ ∃ n, gty 1 0 = .array n := Or.inr ⟨_, rfl⟩
theorem ft_1_1 : gty 1 1 = .int ∨ gty 1 1 = .boolean := Or.inl rfl
theorem ft_2_0 : (∃ n, gty 2 0 = .object n) ∨ ∃ n, gty 2 0 = .array n := Or.inl ⟨_, rfl⟩
theorem ft_2_1 : (∃ n, gty 2 1 = .object n) ∨ ∃ n, gty 2 1 = .array n := Or.inl ⟨_, rfl⟩
theorem ft_2_10 : gty 2 10 = .int ∨ gty 2 10 = .boolean := Or.inl rfl
theorem ft_2_11 : gty 2 11 = .int ∨ gty 2 11 = .boolean := Or.inl rfl
theorem ft_2_12 : gty 2 12 = .int ∨ gty 2 12 = .boolean := Or.inl rfl
theorem ft_2_2 : (∃ n, gty 2 2 = .object n) ∨ ∃ n, gty 2 2 = .array n := Or.inr ⟨_, rfl⟩
theorem ft_2_3 : (∃ n, gty 2 3 = .object n) ∨ ∃ n, gty 2 3 = .array n := Or.inr ⟨_, rfl⟩
theorem ft_2_4 : (∃ n, gty 2 4 = .object n) ∨ ∃ n, gty 2 4 = .array n := Or.inr ⟨_, rfl⟩
theorem ft_2_5 : (∃ n, gty 2 5 = .object n) ∨ ∃ n, gty 2 5 = .array n := Or.inr ⟨_, rfl⟩
theorem ft_2_6 : (∃ n, gty 2 6 = .object n) ∨ ∃ n, gty 2 6 = .array n := Or.inr ⟨_, rfl⟩
theorem ft_2_7 : (∃ n, gty 2 7 = .object n) ∨ ∃ n, gty 2 7 = .array n := Or.inr ⟨_, rfl⟩
theorem ft_2_8 : gty 2 8 = .int ∨ gty 2 8 = .boolean := Or.inl rfl
theorem ft_2_9 : gty 2 9 = .int ∨ gty 2 9 = .boolean := Or.inl rfl
theorem ft_3_0 : (∃ n, gty 3 0 = .object n) ∨ ∃ n, gty 3 0 = .array n := Or.inl ⟨_, rfl⟩
theorem ft_3_1 : (∃ n, gty 3 1 = .object n) ∨ ∃ n, gty 3 1 = .array n := Or.inr ⟨_, rfl⟩
theorem ft_3_10 : gty 3 10 = .int ∨ gty 3 10 = .boolean := Or.inl rfl
theorem ft_3_11 : gty 3 11 = .int ∨ gty 3 11 = .boolean := Or.inr rfl
theorem ft_3_12 : gty 3 12 = .int ∨ gty 3 12 = .boolean := Or.inl rfl
theorem ft_3_13 : gty 3 13 = .int ∨ gty 3 13 = .boolean := Or.inl rfl
theorem ft_3_14 : gty 3 14 = .int ∨ gty 3 14 = .boolean := Or.inl rfl
theorem ft_3_15 : gty 3 15 = .int ∨ gty 3 15 = .boolean := Or.inl rfl
theorem ft_3_16 : gty 3 16 = .int ∨ gty 3 16 = .boolean := Or.inl rfl
theorem ft_3_17 : gty 3 17 = .int ∨ gty 3 17 = .boolean := Or.inl rfl
theorem ft_3_18 : gty 3 18 = .int ∨ gty 3 18 = .boolean := Or.inl rfl
theorem ft_3_2 : (∃ n, gty 3 2 = .object n) ∨ ∃ n, gty 3 2 = .array n := Or.inl ⟨_, rfl⟩
theorem ft_3_3 : (∃ n, gty 3 3 = .object n) ∨ ∃ n, gty 3 3 = .array n := Or.inl ⟨_, rfl⟩
theorem ft_3_4 : (∃ n, gty 3 4 = .object n) ∨ ∃ n, gty 3 4 = .array n := Or.inl ⟨_, rfl⟩
theorem ft_3_5 : (∃ n, gty 3 5 = .object n) ∨ ∃ n, gty 3 5 = .array n := Or.inr ⟨_, rfl⟩
theorem ft_3_6 : gty 3 6 = .int ∨ gty 3 6 = .boolean := Or.inl rfl
theorem ft_3_7 : gty 3 7 = .int ∨ gty 3 7 = .boolean := Or.inl rfl
theorem ft_3_8 : gty 3 8 = .int ∨ gty 3 8 = .boolean := Or.inr rfl
theorem ft_3_9 : gty 3 9 = .int ∨ gty 3 9 = .boolean := Or.inl rfl
theorem ft_4_0 : gty 4 0 = .int ∨ gty 4 0 = .boolean := Or.inl rfl
theorem ft_4_1 : (∃ n, gty 4 1 = .object n) ∨ ∃ n, gty 4 1 = .array n := Or.inr ⟨_, rfl⟩
theorem ft_4_2 : gty 4 2 = .int ∨ gty 4 2 = .boolean := Or.inl rfl
theorem ft_5_0 : (∃ n, gty 5 0 = .object n) ∨ ∃ n, gty 5 0 = .array n := Or.inl ⟨_, rfl⟩
theorem ft_5_1 : (∃ n, gty 5 1 = .object n) ∨ ∃ n, gty 5 1 = .array n := Or.inr ⟨_, rfl⟩
theorem ft_5_10 : (∃ n, gty 5 10 = .object n) ∨ ∃ n, gty 5 10 = .array n := Or.inl ⟨_, rfl⟩
theorem ft_5_11 : (∃ n, gty 5 11 = .object n) ∨ ∃ n, gty 5 11 = .array n := Or.inl ⟨_, rfl⟩
theorem ft_5_12 : gty 5 12 = .int ∨ gty 5 12 = .boolean := Or.inl rfl
theorem ft_5_13 : gty 5 13 = .int ∨ gty 5 13 = .boolean := Or.inl rfl
theorem ft_5_14 : gty 5 14 = .int ∨ gty 5 14 = .boolean := Or.inl rfl
theorem ft_5_15 : gty 5 15 = .int ∨ gty 5 15 = .boolean := Or.inl rfl
theorem ft_5_16 : gty 5 16 = .int ∨ gty 5 16 = .boolean := Or.inl rfl
theorem ft_5_17 : gty 5 17 = .int ∨ gty 5 17 = .boolean := Or.inr rfl
theorem ft_5_2 : (∃ n, gty 5 2 = .object n) ∨ ∃ n, gty 5 2 = .array n := Or.inr ⟨_, rfl⟩
theorem ft_5_3 : (∃ n, gty 5 3 = .object n) ∨ ∃ n, gty 5 3 = .array n := Or.inl ⟨_, rfl⟩
theorem ft_5_4 : (∃ n, gty 5 4 = .object n) ∨ ∃ n, gty 5 4 = .array n := Or.inl ⟨_, rfl⟩
theorem ft_5_5 : (∃ n, gty 5 5 = .object n) ∨ ∃ n, gty 5 5 = .array n := Or.inl ⟨_, rfl⟩
theorem ft_5_6 : (∃ n, gty 5 6 = .object n) ∨ ∃ n, gty 5 6 = .array n := Or.inr ⟨_, rfl⟩
theorem ft_5_7 : (∃ n, gty 5 7 = .object n) ∨ ∃ n, gty 5 7 = .array n := Or.inr ⟨_, rfl⟩
theorem ft_5_8 : (∃ n, gty 5 8 = .object n) ∨ ∃ n, gty 5 8 = .array n := Or.inr ⟨_, rfl⟩
theorem ft_5_9 : (∃ n, gty 5 9 = .object n) ∨ ∃ n, gty 5 9 = .array n := Or.inr ⟨_, rfl⟩
theorem ft_6_0 : (∃ n, gty 6 0 = .object n) ∨ ∃ n, gty 6 0 = .array n := Or.inl ⟨_, rfl⟩
theorem ft_6_1 : (∃ n, gty 6 1 = .object n) ∨ ∃ n, gty 6 1 = .array n := Or.inl ⟨_, rfl⟩
theorem ft_6_10 : gty 6 10 = .int ∨ gty 6 10 = .boolean := Or.inl rfl
theorem ft_6_11 : gty 6 11 = .int ∨ gty 6 11 = .boolean := Or.inl rfl
theorem ft_6_12 : gty 6 12 = .int ∨ gty 6 12 = .boolean := Or.inl rfl
theorem ft_6_13 : gty 6 13 = .int ∨ gty 6 13 = .boolean := Or.inl rfl
theorem ft_6_14 : gty 6 14 = .int ∨ gty 6 14 = .boolean := Or.inl rfl
theorem ft_6_15 : gty 6 15 = .int ∨ gty 6 15 = .boolean := Or.inl rfl
theorem ft_6_16 : gty 6 16 = .int ∨ gty 6 16 = .boolean := Or.inl rfl
theorem ft_6_17 : gty 6 17 = .int ∨ gty 6 17 = .boolean := Or.inl rfl
theorem ft_6_18 : gty 6 18 = .int ∨ gty 6 18 = .boolean := Or.inl rfl
theorem ft_6_2 : (∃ n, gty 6 2 = .object n) ∨ ∃ n, gty 6 2 = .array n := Or.inl ⟨_, rfl⟩
theorem ft_6_3 : (∃ n, gty 6 3 = .object n) ∨ ∃ n, gty 6 3 = .array n := Or.inl ⟨_, rfl⟩
theorem ft_6_4 : (∃ n, gty 6 4 = .object n) ∨ ∃ n, gty 6 4 = .array n := Or.inl ⟨_, rfl⟩
theorem ft_6_5 : (∃ n, gty 6 5 = .object n) ∨ ∃ n, gty 6 5 = .array n := Or.inl ⟨_, rfl⟩
theorem ft_6_6 : (∃ n, gty 6 6 = .object n) ∨ ∃ n, gty 6 6 = .array n := Or.inl ⟨_, rfl⟩
theorem ft_6_7 : (∃ n, gty 6 7 = .object n) ∨ ∃ n, gty 6 7 = .array n := Or.inl ⟨_, rfl⟩
theorem ft_6_8 : gty 6 8 = .int ∨ gty 6 8 = .boolean := Or.inl rfl
theorem ft_6_9 : gty 6 9 = .int ∨ gty 6 9 = .boolean := Or.inl rfl
theorem ft_7_0 : (∃ n, gty 7 0 = .object n) ∨ ∃ n, gty 7 0 = .array n := Or.inr ⟨_, rfl⟩
theorem ft_7_1 : (∃ n, gty 7 1 = .object n) ∨ ∃ n, gty 7 1 = .array n := Or.inr ⟨_, rfl⟩
theorem ft_7_2 : (∃ n, gty 7 2 = .object n) ∨ ∃ n, gty 7 2 = .array n := Or.inr ⟨_, rfl⟩
theorem ft_7_3 : (∃ n, gty 7 3 = .object n) ∨ ∃ n, gty 7 3 = .array n := Or.inr ⟨_, rfl⟩
theorem ft_7_4 : (∃ n, gty 7 4 = .object n) ∨ ∃ n, gty 7 4 = .array n := Or.inr ⟨_, rfl⟩
theorem ft_7_5 : gty 7 5 = .int ∨ gty 7 5 = .boolean := Or.inl rfl
theorem ft_7_6 : gty 7 6 = .int ∨ gty 7 6 = .boolean := Or.inl rfl
theorem ft_8_0 : (∃ n, gty 8 0 = .object n) ∨ ∃ n, gty 8 0 = .array n := Or.inl ⟨_, rfl⟩
theorem ft_8_1 : (∃ n, gty 8 1 = .object n) ∨ ∃ n, gty 8 1 = .array n := Or.inr ⟨_, rfl⟩
theorem ft_8_2 : gty 8 2 = .int ∨ gty 8 2 = .boolean := Or.inl rfl
theorem ft_8_3 : gty 8 3 = .int ∨ gty 8 3 = .boolean := Or.inl rfl
theorem ft_8_4 : gty 8 4 = .int ∨ gty 8 4 = .boolean := Or.inr rfl
theorem ft_8_5 : gty 8 5 = .int ∨ gty 8 5 = .boolean := Or.inl rfl
theorem ft_9_0 : (∃ n, gty 9 0 = .object n) ∨ ∃ n, gty 9 0 = .array n := Or.inl ⟨_, rfl⟩
theorem ft_9_1 : gty 9 1 = .int ∨ gty 9 1 = .boolean := Or.inr rfl
theorem ft_9_10 : gty 9 10 = .int ∨ gty 9 10 = .boolean := Or.inl rfl
theorem ft_9_11 : gty 9 11 = .int ∨ gty 9 11 = .boolean := Or.inl rfl
theorem ft_9_12 : gty 9 12 = .int ∨ gty 9 12 = .boolean := Or.inl rfl
theorem ft_9_13 : gty 9 13 = .int ∨ gty 9 13 = .boolean := Or.inl rfl
theorem ft_9_14 : gty 9 14 = .int ∨ gty 9 14 = .boolean := Or.inl rfl
theorem ft_9_15 : gty 9 15 = .int ∨ gty 9 15 = .boolean := Or.inl rfl
theorem ft_9_16 : gty 9 16 = .int ∨ gty 9 16 = .boolean := Or.inl rfl
theorem ft_9_2 : gty 9 2 = .int ∨ gty 9 2 = .boolean := Or.inl rfl
theorem ft_9_3 : gty 9 3 = .int ∨ gty 9 3 = .boolean := Or.inl rfl
theorem ft_9_4 : gty 9 4 = .long := rfl
theorem ft_9_5 : gty 9 5 = .int ∨ gty 9 5 = .boolean := Or.inl rfl
theorem ft_9_6 : gty 9 6 = .int ∨ gty 9 6 = .boolean := Or.inl rfl
theorem ft_9_7 : gty 9 7 = .int ∨ gty 9 7 = .boolean := Or.inl rfl
theorem ft_9_8 : gty 9 8 = .int ∨ gty 9 8 = .boolean := Or.inl rfl
theorem ft_9_9 : gty 9 9 = .int ∨ gty 9 9 = .boolean := Or.inl rfl
theorem fu_0_11 : gty 0 11 = .int := rfl
theorem fu_0_12 : gty 0 12 = .int := rfl
theorem fu_0_13 : gty 0 13 = .boolean := rfl
theorem fu_11_1 : gty 11 1 = .int := rfl
theorem fu_11_10 : gty 11 10 = .int := rfl
theorem fu_11_104 : gty 11 104 = .int := rfl
theorem fu_11_106 : gty 11 106 = .int := rfl
theorem fu_11_107 : gty 11 107 = .int := rfl
theorem fu_11_11 : gty 11 11 = .int := rfl
theorem fu_11_128 : gty 11 128 = .boolean := rfl
theorem fu_11_13 : gty 11 13 = .int := rfl
theorem fu_11_130 : gty 11 130 = .int := rfl
theorem fu_11_139 : gty 11 139 = .int := rfl
theorem fu_11_14 : gty 11 14 = .int := rfl
theorem fu_11_141 : gty 11 141 = .boolean := rfl
theorem fu_11_144 : gty 11 144 = .int := rfl
theorem fu_11_145 : gty 11 145 = .int := rfl
theorem fu_11_146 : gty 11 146 = .int := rfl
theorem fu_11_147 : gty 11 147 = .int := rfl
theorem fu_11_16 : gty 11 16 = .int := rfl
theorem fu_11_17 : gty 11 17 = .int := rfl
theorem fu_11_18 : gty 11 18 = .int := rfl
theorem fu_11_19 : gty 11 19 = .int := rfl
theorem fu_11_20 : gty 11 20 = .boolean := rfl
theorem fu_11_21 : gty 11 21 = .boolean := rfl
theorem fu_11_22 : gty 11 22 = .boolean := rfl
theorem fu_11_23 : gty 11 23 = .int := rfl
theorem fu_11_24 : gty 11 24 = .int := rfl
theorem fu_11_25 : gty 11 25 = .int := rfl
theorem fu_11_27 : gty 11 27 = .int := rfl
theorem fu_11_28 : gty 11 28 = .int := rfl
theorem fu_11_29 : gty 11 29 = .int := rfl
theorem fu_11_30 : gty 11 30 = .int := rfl
theorem fu_11_31 : gty 11 31 = .int := rfl
theorem fu_11_32 : gty 11 32 = .int := rfl
theorem fu_11_33 : gty 11 33 = .int := rfl
theorem fu_11_34 : gty 11 34 = .int := rfl
theorem fu_11_35 : gty 11 35 = .int := rfl
theorem fu_11_36 : gty 11 36 = .int := rfl
theorem fu_11_37 : gty 11 37 = .int := rfl
theorem fu_11_38 : gty 11 38 = .int := rfl
theorem fu_11_41 : gty 11 41 = .int := rfl
theorem fu_11_43 : gty 11 43 = .int := rfl
theorem fu_11_48 : gty 11 48 = .int := rfl
theorem fu_11_49 : gty 11 49 = .int := rfl
theorem fu_11_58 : gty 11 58 = .int := rfl
theorem fu_11_60 : gty 11 60 = .boolean := rfl
theorem fu_11_61 : gty 11 61 = .int := rfl
theorem fu_11_62 : gty 11 62 = .int := rfl
theorem fu_11_63 : gty 11 63 = .int := rfl
theorem fu_11_64 : gty 11 64 = .boolean := rfl
theorem fu_11_65 : gty 11 65 = .int := rfl
theorem fu_11_67 : gty 11 67 = .int := rfl
theorem fu_11_68 : gty 11 68 = .int := rfl
theorem fu_11_69 : gty 11 69 = .int := rfl
theorem fu_11_70 : gty 11 70 = .int := rfl
theorem fu_11_71 : gty 11 71 = .int := rfl
theorem fu_11_72 : gty 11 72 = .int := rfl
theorem fu_11_77 : gty 11 77 = .int := rfl
theorem fu_11_80 : gty 11 80 = .int := rfl
theorem fu_11_81 : gty 11 81 = .int := rfl
theorem fu_11_83 : gty 11 83 = .int := rfl
theorem fu_11_86 : gty 11 86 = .int := rfl
theorem fu_11_87 : gty 11 87 = .int := rfl
theorem fu_11_9 : gty 11 9 = .boolean := rfl
theorem fu_11_90 : gty 11 90 = .int := rfl
theorem fu_1_1 : gty 1 1 = .int := rfl
theorem fu_2_10 : gty 2 10 = .int := rfl
theorem fu_2_11 : gty 2 11 = .int := rfl
theorem fu_2_12 : gty 2 12 = .int := rfl
theorem fu_2_8 : gty 2 8 = .int := rfl
theorem fu_2_9 : gty 2 9 = .int := rfl
theorem fu_3_10 : gty 3 10 = .int := rfl
theorem fu_3_11 : gty 3 11 = .boolean := rfl
theorem fu_3_12 : gty 3 12 = .int := rfl
theorem fu_3_13 : gty 3 13 = .int := rfl
theorem fu_3_14 : gty 3 14 = .int := rfl
theorem fu_3_15 : gty 3 15 = .int := rfl
theorem fu_3_16 : gty 3 16 = .int := rfl
theorem fu_3_17 : gty 3 17 = .int := rfl
theorem fu_3_18 : gty 3 18 = .int := rfl
theorem fu_3_6 : gty 3 6 = .int := rfl
theorem fu_3_7 : gty 3 7 = .int := rfl
theorem fu_3_8 : gty 3 8 = .boolean := rfl
theorem fu_3_9 : gty 3 9 = .int := rfl
theorem fu_4_2 : gty 4 2 = .int := rfl
theorem fu_5_12 : gty 5 12 = .int := rfl
theorem fu_5_13 : gty 5 13 = .int := rfl
theorem fu_5_14 : gty 5 14 = .int := rfl
theorem fu_5_15 : gty 5 15 = .int := rfl
theorem fu_5_16 : gty 5 16 = .int := rfl
theorem fu_5_17 : gty 5 17 = .boolean := rfl
theorem fu_6_10 : gty 6 10 = .int := rfl
theorem fu_6_11 : gty 6 11 = .int := rfl
theorem fu_6_12 : gty 6 12 = .int := rfl
theorem fu_6_13 : gty 6 13 = .int := rfl
theorem fu_6_14 : gty 6 14 = .int := rfl
theorem fu_6_15 : gty 6 15 = .int := rfl
theorem fu_6_16 : gty 6 16 = .int := rfl
theorem fu_6_17 : gty 6 17 = .int := rfl
theorem fu_6_18 : gty 6 18 = .int := rfl
theorem fu_6_8 : gty 6 8 = .int := rfl
theorem fu_6_9 : gty 6 9 = .int := rfl
theorem fu_7_5 : gty 7 5 = .int := rfl
theorem fu_7_6 : gty 7 6 = .int := rfl
theorem fu_8_2 : gty 8 2 = .int := rfl
theorem fu_8_3 : gty 8 3 = .int := rfl
theorem fu_8_4 : gty 8 4 = .boolean := rfl
theorem fu_8_5 : gty 8 5 = .int := rfl
theorem fu_9_1 : gty 9 1 = .boolean := rfl
theorem fu_9_10 : gty 9 10 = .int := rfl
theorem fu_9_11 : gty 9 11 = .int := rfl
theorem fu_9_12 : gty 9 12 = .int := rfl
theorem fu_9_13 : gty 9 13 = .int := rfl
theorem fu_9_14 : gty 9 14 = .int := rfl
theorem fu_9_15 : gty 9 15 = .int := rfl
theorem fu_9_16 : gty 9 16 = .int := rfl
theorem fu_9_2 : gty 9 2 = .int := rfl
theorem fu_9_3 : gty 9 3 = .int := rfl
theorem fu_9_4 : gty 9 4 = .long := rfl
theorem fu_9_5 : gty 9 5 = .int := rfl
theorem fu_9_6 : gty 9 6 = .int := rfl
theorem fu_9_7 : gty 9 7 = .int := rfl
theorem fu_9_8 : gty 9 8 = .int := rfl
theorem fu_9_9 : gty 9 9 = .int := rfl
theorem kf_1_0 {a : Nat} (h : SK0 a = (0, 1)) : SR a 0 = some (a + 1) ∧ SK0 (a + 1) = (2, gln (a + 1)) := by
  have hl := SK0_lt h (by decide)
  have key : (List.range 222).all (fun a => !(decide (SK0 a = (0, 1))) || (decide (SR a 0 = some (a + 1)) && decide (SK0 (a + 1) = (2, gln (a + 1))))) = true := by decide +kernel
  have h1 := List.all_eq_true.mp key a (List.mem_range.mpr hl)
  simp only [h, decide_true, Bool.not_true, Bool.false_or, Bool.and_eq_true, decide_eq_true_eq] at h1
  exact h1
theorem kf_4_1 {a : Nat} (h : SK0 a = (0, 4)) : SR a 1 = some (a + 1) ∧ SK0 (a + 1) = (1, gln (a + 1)) := by
  have hl := SK0_lt h (by decide)
  have key : (List.range 222).all (fun a => !(decide (SK0 a = (0, 4))) || (decide (SR a 1 = some (a + 1)) && decide (SK0 (a + 1) = (1, gln (a + 1))))) = true := by decide +kernel
  have h1 := List.all_eq_true.mp key a (List.mem_range.mpr hl)
  simp only [h, decide_true, Bool.not_true, Bool.false_or, Bool.and_eq_true, decide_eq_true_eq] at h1
  exact h1
theorem kf_7_0 {a : Nat} (h : SK0 a = (0, 7)) : SR a 0 = some (a + 1) ∧ SK0 (a + 1) = (2, gln (a + 1)) := by
  have hl := SK0_lt h (by decide)
  have key : (List.range 222).all (fun a => !(decide (SK0 a = (0, 7))) || (decide (SR a 0 = some (a + 1)) && decide (SK0 (a + 1) = (2, gln (a + 1))))) = true := by decide +kernel
  have h1 := List.all_eq_true.mp key a (List.mem_range.mpr hl)
  simp only [h, decide_true, Bool.not_true, Bool.false_or, Bool.and_eq_true, decide_eq_true_eq] at h1
  exact h1
theorem kf_7_1 {a : Nat} (h : SK0 a = (0, 7)) : SR a 1 = some (a + 2) ∧ SK0 (a + 2) = (1, gln (a + 2)) := by
  have hl := SK0_lt h (by decide)
  have key : (List.range 222).all (fun a => !(decide (SK0 a = (0, 7))) || (decide (SR a 1 = some (a + 2)) && decide (SK0 (a + 2) = (1, gln (a + 2))))) = true := by decide +kernel
  have h1 := List.all_eq_true.mp key a (List.mem_range.mpr hl)
  simp only [h, decide_true, Bool.not_true, Bool.false_or, Bool.and_eq_true, decide_eq_true_eq] at h1
  exact h1
theorem kf_7_2 {a : Nat} (h : SK0 a = (0, 7)) : SR a 2 = some (a + 3) ∧ SK0 (a + 3) = (1, gln (a + 3)) := by
  have hl := SK0_lt h (by decide)
  have key : (List.range 222).all (fun a => !(decide (SK0 a = (0, 7))) || (decide (SR a 2 = some (a + 3)) && decide (SK0 (a + 3) = (1, gln (a + 3))))) = true := by decide +kernel
  have h1 := List.all_eq_true.mp key a (List.mem_range.mpr hl)
  simp only [h, decide_true, Bool.not_true, Bool.false_or, Bool.and_eq_true, decide_eq_true_eq] at h1
  exact h1
theorem kf_7_3 {a : Nat} (h : SK0 a = (0, 7)) : SR a 3 = some (a + 4) ∧ SK0 (a + 4) = (1, gln (a + 4)) := by
  have hl := SK0_lt h (by decide)
  have key : (List.range 222).all (fun a => !(decide (SK0 a = (0, 7))) || (decide (SR a 3 = some (a + 4)) && decide (SK0 (a + 4) = (1, gln (a + 4))))) = true := by decide +kernel
  have h1 := List.all_eq_true.mp key a (List.mem_range.mpr hl)
  simp only [h, decide_true, Bool.not_true, Bool.false_or, Bool.and_eq_true, decide_eq_true_eq] at h1
  exact h1
theorem kf_7_4 {a : Nat} (h : SK0 a = (0, 7)) : SR a 4 = some (a + 5) ∧ SK0 (a + 5) = (1, gln (a + 5)) := by
  have hl := SK0_lt h (by decide)
  have key : (List.range 222).all (fun a => !(decide (SK0 a = (0, 7))) || (decide (SR a 4 = some (a + 5)) && decide (SK0 (a + 5) = (1, gln (a + 5))))) = true := by decide +kernel
  have h1 := List.all_eq_true.mp key a (List.mem_range.mpr hl)
  simp only [h, decide_true, Bool.not_true, Bool.false_or, Bool.and_eq_true, decide_eq_true_eq] at h1
  exact h1
theorem kf_8_0 {a : Nat} (h : SK0 a = (0, 8)) : SR a 0 = some (a + 1) ∧ SK0 (a + 1) = (0, 7) := by
  have hl := SK0_lt h (by decide)
  have key : (List.range 222).all (fun a => !(decide (SK0 a = (0, 8))) || (decide (SR a 0 = some (a + 1)) && decide (SK0 (a + 1) = (0, 7)))) = true := by decide +kernel
  have h1 := List.all_eq_true.mp key a (List.mem_range.mpr hl)
  simp only [h, decide_true, Bool.not_true, Bool.false_or, Bool.and_eq_true, decide_eq_true_eq] at h1
  exact h1
theorem kf_8_1 {a : Nat} (h : SK0 a = (0, 8)) : SR a 1 = some (a + 7) ∧ SK0 (a + 7) = (1, gln (a + 7)) := by
  have hl := SK0_lt h (by decide)
  have key : (List.range 222).all (fun a => !(decide (SK0 a = (0, 8))) || (decide (SR a 1 = some (a + 7)) && decide (SK0 (a + 7) = (1, gln (a + 7))))) = true := by decide +kernel
  have h1 := List.all_eq_true.mp key a (List.mem_range.mpr hl)
  simp only [h, decide_true, Bool.not_true, Bool.false_or, Bool.and_eq_true, decide_eq_true_eq] at h1
  exact h1
theorem kl_0_11 : (0 * 1000 + 11, .long (254), 867) ∈ gKL := by decide +kernel
theorem kl_0_22 : (0 * 1000 + 22, .int (60304), 828) ∈ gKL := by decide +kernel
theorem kl_10_104 : (10 * 1000 + 104, .int (53247), 951) ∈ gKL := by decide +kernel
theorem kl_10_105 : (10 * 1000 + 105, .int (64512), 952) ∈ gKL := by decide +kernel
theorem kl_10_116 : (10 * 1000 + 116, .int (33280), 962) ∈ gKL := by decide +kernel
theorem kl_10_45 : (10 * 1000 + 45, .int (65535), 908) ∈ gKL := by decide +kernel
theorem kl_10_49 : (10 * 1000 + 49, .int (60304), 909) ∈ gKL := by decide +kernel
theorem kl_11_127 : (11 * 1000 + 127, .long (4294967295), 863) ∈ gKL := by decide +kernel
theorem kl_12_15 : (12 * 1000 + 15, .int (65535), 1842) ∈ gKL := by decide +kernel
theorem kl_12_349 : (12 * 1000 + 349, .int (449838109), 2067) ∈ gKL := by decide +kernel
theorem kl_12_53 : (12 * 1000 + 53, .int (64000), 1907) ∈ gKL := by decide +kernel
theorem kl_12_557 : (12 * 1000 + 557, .long (2147483647), 2182) ∈ gKL := by decide +kernel
theorem kl_12_97 : (12 * 1000 + 97, .int (60304), 1920) ∈ gKL := by decide +kernel
theorem kl_13_265 : (13 * 1000 + 265, .int (1431655765), 913) ∈ gKL := by decide +kernel
theorem kl_13_266 : (13 * 1000 + 266, .int (858993459), 914) ∈ gKL := by decide +kernel
theorem kl_13_267 : (13 * 1000 + 267, .int (252645135), 915) ∈ gKL := by decide +kernel
theorem kl_1_334 : (1 * 1000 + 334, .long (2147483647), 1574) ∈ gKL := by decide +kernel
theorem kl_2_50 : (2 * 1000 + 50, .int (65535), 809) ∈ gKL := by decide +kernel
theorem kl_3_65 : (3 * 1000 + 65, .int (49152), 1330) ∈ gKL := by decide +kernel
theorem kl_4_100 : (4 * 1000 + 100, .int (65521), 1112) ∈ gKL := by decide +kernel
theorem kl_4_68 : (4 * 1000 + 68, .int (449838109), 1087) ∈ gKL := by decide +kernel
theorem kl_6_148 : (6 * 1000 + 148, .int (449838109), 1759) ∈ gKL := by decide +kernel
theorem kl_6_71 : (6 * 1000 + 71, .int (49152), 1020) ∈ gKL := by decide +kernel
theorem kl_7_199 : (7 * 1000 + 199, .int (33280), 1400) ∈ gKL := by decide +kernel
theorem lk_58 {i : Int32} {q : Nat} (h : ldR 58 i = some q) : SK0 q = (0, 8) := by
  unfold ldR at h
  split at h
  · rename_i h1
    have h2 : i.toNatClampNeg < 2 := h1.2
    rcases (show i.toNatClampNeg = 0 ∨ i.toNatClampNeg = 1 by omega) with e | e
    · rw [e, show SR 58 0 = some 59 by decide +kernel] at h
      cases h; decide +kernel
    · rw [e, show SR 58 1 = some 67 by decide +kernel] at h
      cases h; decide +kernel
  · cases h
theorem lk_89 {i : Int32} {q : Nat} (h : ldR 89 i = some q) : SK0 q = (0, 1) := by
  unfold ldR at h
  split at h
  · rename_i h1
    have h2 : i.toNatClampNeg < 2 := h1.2
    rcases (show i.toNatClampNeg = 0 ∨ i.toNatClampNeg = 1 by omega) with e | e
    · rw [e, show SR 89 0 = some 90 by decide +kernel] at h
      cases h; decide +kernel
    · rw [e, show SR 89 1 = some 92 by decide +kernel] at h
      cases h; decide +kernel
  · cases h
theorem ml_1 : gMLk 1 = true := gML_all 1 (by decide) (by decide) (by decide)
theorem ml_10 : gMLk 10 = true := gML_all 10 (by decide) (by decide) (by decide)
theorem ml_100 : gMLk 100 = true := gML_all 100 (by decide) (by decide) (by decide)
theorem ml_101 : gMLk 101 = true := gML_all 101 (by decide) (by decide) (by decide)
theorem ml_102 : gMLk 102 = true := gML_all 102 (by decide) (by decide) (by decide)
theorem ml_103 : gMLk 103 = true := gML_all 103 (by decide) (by decide) (by decide)
theorem ml_104 : gMLk 104 = true := gML_all 104 (by decide) (by decide) (by decide)
theorem ml_105 : gMLk 105 = true := gML_all 105 (by decide) (by decide) (by decide)
theorem ml_106 : gMLk 106 = true := gML_all 106 (by decide) (by decide) (by decide)
theorem ml_108 : gMLk 108 = true := gML_all 108 (by decide) (by decide) (by decide)
theorem ml_109 : gMLk 109 = true := gML_all 109 (by decide) (by decide) (by decide)
theorem ml_11 : gMLk 11 = true := gML_all 11 (by decide) (by decide) (by decide)
theorem ml_110 : gMLk 110 = true := gML_all 110 (by decide) (by decide) (by decide)
theorem ml_111 : gMLk 111 = true := gML_all 111 (by decide) (by decide) (by decide)
theorem ml_112 : gMLk 112 = true := gML_all 112 (by decide) (by decide) (by decide)
theorem ml_113 : gMLk 113 = true := gML_all 113 (by decide) (by decide) (by decide)
theorem ml_114 : gMLk 114 = true := gML_all 114 (by decide) (by decide) (by decide)
theorem ml_115 : gMLk 115 = true := gML_all 115 (by decide) (by decide) (by decide)
theorem ml_117 : gMLk 117 = true := gML_all 117 (by decide) (by decide) (by decide)
theorem ml_118 : gMLk 118 = true := gML_all 118 (by decide) (by decide) (by decide)
theorem ml_119 : gMLk 119 = true := gML_all 119 (by decide) (by decide) (by decide)
theorem ml_12 : gMLk 12 = true := gML_all 12 (by decide) (by decide) (by decide)
theorem ml_120 : gMLk 120 = true := gML_all 120 (by decide) (by decide) (by decide)
theorem ml_121 : gMLk 121 = true := gML_all 121 (by decide) (by decide) (by decide)
theorem ml_122 : gMLk 122 = true := gML_all 122 (by decide) (by decide) (by decide)
theorem ml_123 : gMLk 123 = true := gML_all 123 (by decide) (by decide) (by decide)
theorem ml_124 : gMLk 124 = true := gML_all 124 (by decide) (by decide) (by decide)
theorem ml_125 : gMLk 125 = true := gML_all 125 (by decide) (by decide) (by decide)
theorem ml_126 : gMLk 126 = true := gML_all 126 (by decide) (by decide) (by decide)
theorem ml_127 : gMLk 127 = true := gML_all 127 (by decide) (by decide) (by decide)
theorem ml_129 : gMLk 129 = true := gML_all 129 (by decide) (by decide) (by decide)
theorem ml_13 : gMLk 13 = true := gML_all 13 (by decide) (by decide) (by decide)
theorem ml_130 : gMLk 130 = true := gML_all 130 (by decide) (by decide) (by decide)
theorem ml_131 : gMLk 131 = true := gML_all 131 (by decide) (by decide) (by decide)
theorem ml_132 : gMLk 132 = true := gML_all 132 (by decide) (by decide) (by decide)
theorem ml_133 : gMLk 133 = true := gML_all 133 (by decide) (by decide) (by decide)
theorem ml_134 : gMLk 134 = true := gML_all 134 (by decide) (by decide) (by decide)
theorem ml_135 : gMLk 135 = true := gML_all 135 (by decide) (by decide) (by decide)
theorem ml_136 : gMLk 136 = true := gML_all 136 (by decide) (by decide) (by decide)
theorem ml_137 : gMLk 137 = true := gML_all 137 (by decide) (by decide) (by decide)
theorem ml_138 : gMLk 138 = true := gML_all 138 (by decide) (by decide) (by decide)
theorem ml_139 : gMLk 139 = true := gML_all 139 (by decide) (by decide) (by decide)
theorem ml_14 : gMLk 14 = true := gML_all 14 (by decide) (by decide) (by decide)
theorem ml_140 : gMLk 140 = true := gML_all 140 (by decide) (by decide) (by decide)
theorem ml_141 : gMLk 141 = true := gML_all 141 (by decide) (by decide) (by decide)
theorem ml_142 : gMLk 142 = true := gML_all 142 (by decide) (by decide) (by decide)
theorem ml_143 : gMLk 143 = true := gML_all 143 (by decide) (by decide) (by decide)
theorem ml_144 : gMLk 144 = true := gML_all 144 (by decide) (by decide) (by decide)
theorem ml_145 : gMLk 145 = true := gML_all 145 (by decide) (by decide) (by decide)
theorem ml_146 : gMLk 146 = true := gML_all 146 (by decide) (by decide) (by decide)
theorem ml_147 : gMLk 147 = true := gML_all 147 (by decide) (by decide) (by decide)
theorem ml_148 : gMLk 148 = true := gML_all 148 (by decide) (by decide) (by decide)
theorem ml_149 : gMLk 149 = true := gML_all 149 (by decide) (by decide) (by decide)
theorem ml_15 : gMLk 15 = true := gML_all 15 (by decide) (by decide) (by decide)
theorem ml_150 : gMLk 150 = true := gML_all 150 (by decide) (by decide) (by decide)
theorem ml_151 : gMLk 151 = true := gML_all 151 (by decide) (by decide) (by decide)
theorem ml_152 : gMLk 152 = true := gML_all 152 (by decide) (by decide) (by decide)
theorem ml_153 : gMLk 153 = true := gML_all 153 (by decide) (by decide) (by decide)
theorem ml_154 : gMLk 154 = true := gML_all 154 (by decide) (by decide) (by decide)
theorem ml_155 : gMLk 155 = true := gML_all 155 (by decide) (by decide) (by decide)
theorem ml_156 : gMLk 156 = true := gML_all 156 (by decide) (by decide) (by decide)
theorem ml_158 : gMLk 158 = true := gML_all 158 (by decide) (by decide) (by decide)
theorem ml_159 : gMLk 159 = true := gML_all 159 (by decide) (by decide) (by decide)
theorem ml_16 : gMLk 16 = true := gML_all 16 (by decide) (by decide) (by decide)
theorem ml_160 : gMLk 160 = true := gML_all 160 (by decide) (by decide) (by decide)
theorem ml_161 : gMLk 161 = true := gML_all 161 (by decide) (by decide) (by decide)
theorem ml_162 : gMLk 162 = true := gML_all 162 (by decide) (by decide) (by decide)
theorem ml_163 : gMLk 163 = true := gML_all 163 (by decide) (by decide) (by decide)
theorem ml_164 : gMLk 164 = true := gML_all 164 (by decide) (by decide) (by decide)
theorem ml_165 : gMLk 165 = true := gML_all 165 (by decide) (by decide) (by decide)
theorem ml_166 : gMLk 166 = true := gML_all 166 (by decide) (by decide) (by decide)
theorem ml_167 : gMLk 167 = true := gML_all 167 (by decide) (by decide) (by decide)
theorem ml_168 : gMLk 168 = true := gML_all 168 (by decide) (by decide) (by decide)
theorem ml_169 : gMLk 169 = true := gML_all 169 (by decide) (by decide) (by decide)
theorem ml_17 : gMLk 17 = true := gML_all 17 (by decide) (by decide) (by decide)
theorem ml_170 : gMLk 170 = true := gML_all 170 (by decide) (by decide) (by decide)
theorem ml_171 : gMLk 171 = true := gML_all 171 (by decide) (by decide) (by decide)
theorem ml_172 : gMLk 172 = true := gML_all 172 (by decide) (by decide) (by decide)
theorem ml_174 : gMLk 174 = true := gML_all 174 (by decide) (by decide) (by decide)
theorem ml_175 : gMLk 175 = true := gML_all 175 (by decide) (by decide) (by decide)
theorem ml_176 : gMLk 176 = true := gML_all 176 (by decide) (by decide) (by decide)
theorem ml_177 : gMLk 177 = true := gML_all 177 (by decide) (by decide) (by decide)
theorem ml_178 : gMLk 178 = true := gML_all 178 (by decide) (by decide) (by decide)
theorem ml_179 : gMLk 179 = true := gML_all 179 (by decide) (by decide) (by decide)
theorem ml_18 : gMLk 18 = true := gML_all 18 (by decide) (by decide) (by decide)
theorem ml_181 : gMLk 181 = true := gML_all 181 (by decide) (by decide) (by decide)
theorem ml_182 : gMLk 182 = true := gML_all 182 (by decide) (by decide) (by decide)
theorem ml_183 : gMLk 183 = true := gML_all 183 (by decide) (by decide) (by decide)
theorem ml_184 : gMLk 184 = true := gML_all 184 (by decide) (by decide) (by decide)
theorem ml_185 : gMLk 185 = true := gML_all 185 (by decide) (by decide) (by decide)
theorem ml_186 : gMLk 186 = true := gML_all 186 (by decide) (by decide) (by decide)
theorem ml_187 : gMLk 187 = true := gML_all 187 (by decide) (by decide) (by decide)
theorem ml_188 : gMLk 188 = true := gML_all 188 (by decide) (by decide) (by decide)
theorem ml_189 : gMLk 189 = true := gML_all 189 (by decide) (by decide) (by decide)
theorem ml_19 : gMLk 19 = true := gML_all 19 (by decide) (by decide) (by decide)
theorem ml_190 : gMLk 190 = true := gML_all 190 (by decide) (by decide) (by decide)
theorem ml_191 : gMLk 191 = true := gML_all 191 (by decide) (by decide) (by decide)
theorem ml_192 : gMLk 192 = true := gML_all 192 (by decide) (by decide) (by decide)
theorem ml_193 : gMLk 193 = true := gML_all 193 (by decide) (by decide) (by decide)
theorem ml_194 : gMLk 194 = true := gML_all 194 (by decide) (by decide) (by decide)
theorem ml_195 : gMLk 195 = true := gML_all 195 (by decide) (by decide) (by decide)
theorem ml_197 : gMLk 197 = true := gML_all 197 (by decide) (by decide) (by decide)
theorem ml_198 : gMLk 198 = true := gML_all 198 (by decide) (by decide) (by decide)
theorem ml_199 : gMLk 199 = true := gML_all 199 (by decide) (by decide) (by decide)
theorem ml_2 : gMLk 2 = true := gML_all 2 (by decide) (by decide) (by decide)
theorem ml_20 : gMLk 20 = true := gML_all 20 (by decide) (by decide) (by decide)
theorem ml_200 : gMLk 200 = true := gML_all 200 (by decide) (by decide) (by decide)
theorem ml_201 : gMLk 201 = true := gML_all 201 (by decide) (by decide) (by decide)
theorem ml_202 : gMLk 202 = true := gML_all 202 (by decide) (by decide) (by decide)
theorem ml_203 : gMLk 203 = true := gML_all 203 (by decide) (by decide) (by decide)
theorem ml_204 : gMLk 204 = true := gML_all 204 (by decide) (by decide) (by decide)
theorem ml_205 : gMLk 205 = true := gML_all 205 (by decide) (by decide) (by decide)
theorem ml_206 : gMLk 206 = true := gML_all 206 (by decide) (by decide) (by decide)
theorem ml_207 : gMLk 207 = true := gML_all 207 (by decide) (by decide) (by decide)
theorem ml_208 : gMLk 208 = true := gML_all 208 (by decide) (by decide) (by decide)
theorem ml_209 : gMLk 209 = true := gML_all 209 (by decide) (by decide) (by decide)
theorem ml_21 : gMLk 21 = true := gML_all 21 (by decide) (by decide) (by decide)
theorem ml_210 : gMLk 210 = true := gML_all 210 (by decide) (by decide) (by decide)
theorem ml_211 : gMLk 211 = true := gML_all 211 (by decide) (by decide) (by decide)
theorem ml_212 : gMLk 212 = true := gML_all 212 (by decide) (by decide) (by decide)
theorem ml_213 : gMLk 213 = true := gML_all 213 (by decide) (by decide) (by decide)
theorem ml_214 : gMLk 214 = true := gML_all 214 (by decide) (by decide) (by decide)
theorem ml_215 : gMLk 215 = true := gML_all 215 (by decide) (by decide) (by decide)
theorem ml_216 : gMLk 216 = true := gML_all 216 (by decide) (by decide) (by decide)
theorem ml_217 : gMLk 217 = true := gML_all 217 (by decide) (by decide) (by decide)
theorem ml_218 : gMLk 218 = true := gML_all 218 (by decide) (by decide) (by decide)
theorem ml_219 : gMLk 219 = true := gML_all 219 (by decide) (by decide) (by decide)
theorem ml_22 : gMLk 22 = true := gML_all 22 (by decide) (by decide) (by decide)
theorem ml_220 : gMLk 220 = true := gML_all 220 (by decide) (by decide) (by decide)
theorem ml_221 : gMLk 221 = true := gML_all 221 (by decide) (by decide) (by decide)
theorem ml_222 : gMLk 222 = true := gML_all 222 (by decide) (by decide) (by decide)
theorem ml_223 : gMLk 223 = true := gML_all 223 (by decide) (by decide) (by decide)
theorem ml_224 : gMLk 224 = true := gML_all 224 (by decide) (by decide) (by decide)
theorem ml_225 : gMLk 225 = true := gML_all 225 (by decide) (by decide) (by decide)
theorem ml_226 : gMLk 226 = true := gML_all 226 (by decide) (by decide) (by decide)
theorem ml_227 : gMLk 227 = true := gML_all 227 (by decide) (by decide) (by decide)
theorem ml_228 : gMLk 228 = true := gML_all 228 (by decide) (by decide) (by decide)
theorem ml_229 : gMLk 229 = true := gML_all 229 (by decide) (by decide) (by decide)
theorem ml_23 : gMLk 23 = true := gML_all 23 (by decide) (by decide) (by decide)
theorem ml_230 : gMLk 230 = true := gML_all 230 (by decide) (by decide) (by decide)
theorem ml_231 : gMLk 231 = true := gML_all 231 (by decide) (by decide) (by decide)
theorem ml_232 : gMLk 232 = true := gML_all 232 (by decide) (by decide) (by decide)
theorem ml_233 : gMLk 233 = true := gML_all 233 (by decide) (by decide) (by decide)
theorem ml_234 : gMLk 234 = true := gML_all 234 (by decide) (by decide) (by decide)
theorem ml_235 : gMLk 235 = true := gML_all 235 (by decide) (by decide) (by decide)
theorem ml_236 : gMLk 236 = true := gML_all 236 (by decide) (by decide) (by decide)
theorem ml_237 : gMLk 237 = true := gML_all 237 (by decide) (by decide) (by decide)
theorem ml_238 : gMLk 238 = true := gML_all 238 (by decide) (by decide) (by decide)
theorem ml_239 : gMLk 239 = true := gML_all 239 (by decide) (by decide) (by decide)
theorem ml_24 : gMLk 24 = true := gML_all 24 (by decide) (by decide) (by decide)
theorem ml_240 : gMLk 240 = true := gML_all 240 (by decide) (by decide) (by decide)
theorem ml_241 : gMLk 241 = true := gML_all 241 (by decide) (by decide) (by decide)
theorem ml_242 : gMLk 242 = true := gML_all 242 (by decide) (by decide) (by decide)
theorem ml_243 : gMLk 243 = true := gML_all 243 (by decide) (by decide) (by decide)
theorem ml_244 : gMLk 244 = true := gML_all 244 (by decide) (by decide) (by decide)
theorem ml_245 : gMLk 245 = true := gML_all 245 (by decide) (by decide) (by decide)
theorem ml_246 : gMLk 246 = true := gML_all 246 (by decide) (by decide) (by decide)
theorem ml_247 : gMLk 247 = true := gML_all 247 (by decide) (by decide) (by decide)
theorem ml_248 : gMLk 248 = true := gML_all 248 (by decide) (by decide) (by decide)
theorem ml_249 : gMLk 249 = true := gML_all 249 (by decide) (by decide) (by decide)
theorem ml_25 : gMLk 25 = true := gML_all 25 (by decide) (by decide) (by decide)
theorem ml_250 : gMLk 250 = true := gML_all 250 (by decide) (by decide) (by decide)
theorem ml_251 : gMLk 251 = true := gML_all 251 (by decide) (by decide) (by decide)
theorem ml_252 : gMLk 252 = true := gML_all 252 (by decide) (by decide) (by decide)
theorem ml_253 : gMLk 253 = true := gML_all 253 (by decide) (by decide) (by decide)
theorem ml_254 : gMLk 254 = true := gML_all 254 (by decide) (by decide) (by decide)
theorem ml_255 : gMLk 255 = true := gML_all 255 (by decide) (by decide) (by decide)
theorem ml_256 : gMLk 256 = true := gML_all 256 (by decide) (by decide) (by decide)
theorem ml_257 : gMLk 257 = true := gML_all 257 (by decide) (by decide) (by decide)
theorem ml_258 : gMLk 258 = true := gML_all 258 (by decide) (by decide) (by decide)
theorem ml_259 : gMLk 259 = true := gML_all 259 (by decide) (by decide) (by decide)
theorem ml_26 : gMLk 26 = true := gML_all 26 (by decide) (by decide) (by decide)
theorem ml_260 : gMLk 260 = true := gML_all 260 (by decide) (by decide) (by decide)
theorem ml_261 : gMLk 261 = true := gML_all 261 (by decide) (by decide) (by decide)
theorem ml_262 : gMLk 262 = true := gML_all 262 (by decide) (by decide) (by decide)
theorem ml_263 : gMLk 263 = true := gML_all 263 (by decide) (by decide) (by decide)
theorem ml_264 : gMLk 264 = true := gML_all 264 (by decide) (by decide) (by decide)
theorem ml_265 : gMLk 265 = true := gML_all 265 (by decide) (by decide) (by decide)
theorem ml_266 : gMLk 266 = true := gML_all 266 (by decide) (by decide) (by decide)
theorem ml_267 : gMLk 267 = true := gML_all 267 (by decide) (by decide) (by decide)
theorem ml_268 : gMLk 268 = true := gML_all 268 (by decide) (by decide) (by decide)
theorem ml_269 : gMLk 269 = true := gML_all 269 (by decide) (by decide) (by decide)
theorem ml_27 : gMLk 27 = true := gML_all 27 (by decide) (by decide) (by decide)
theorem ml_270 : gMLk 270 = true := gML_all 270 (by decide) (by decide) (by decide)
theorem ml_271 : gMLk 271 = true := gML_all 271 (by decide) (by decide) (by decide)
theorem ml_272 : gMLk 272 = true := gML_all 272 (by decide) (by decide) (by decide)
theorem ml_273 : gMLk 273 = true := gML_all 273 (by decide) (by decide) (by decide)
theorem ml_274 : gMLk 274 = true := gML_all 274 (by decide) (by decide) (by decide)
theorem ml_275 : gMLk 275 = true := gML_all 275 (by decide) (by decide) (by decide)
theorem ml_276 : gMLk 276 = true := gML_all 276 (by decide) (by decide) (by decide)
theorem ml_277 : gMLk 277 = true := gML_all 277 (by decide) (by decide) (by decide)
theorem ml_278 : gMLk 278 = true := gML_all 278 (by decide) (by decide) (by decide)
theorem ml_279 : gMLk 279 = true := gML_all 279 (by decide) (by decide) (by decide)
theorem ml_28 : gMLk 28 = true := gML_all 28 (by decide) (by decide) (by decide)
theorem ml_280 : gMLk 280 = true := gML_all 280 (by decide) (by decide) (by decide)
theorem ml_281 : gMLk 281 = true := gML_all 281 (by decide) (by decide) (by decide)
theorem ml_282 : gMLk 282 = true := gML_all 282 (by decide) (by decide) (by decide)
theorem ml_283 : gMLk 283 = true := gML_all 283 (by decide) (by decide) (by decide)
theorem ml_284 : gMLk 284 = true := gML_all 284 (by decide) (by decide) (by decide)
theorem ml_285 : gMLk 285 = true := gML_all 285 (by decide) (by decide) (by decide)
theorem ml_286 : gMLk 286 = true := gML_all 286 (by decide) (by decide) (by decide)
theorem ml_287 : gMLk 287 = true := gML_all 287 (by decide) (by decide) (by decide)
theorem ml_288 : gMLk 288 = true := gML_all 288 (by decide) (by decide) (by decide)
theorem ml_289 : gMLk 289 = true := gML_all 289 (by decide) (by decide) (by decide)
theorem ml_29 : gMLk 29 = true := gML_all 29 (by decide) (by decide) (by decide)
theorem ml_290 : gMLk 290 = true := gML_all 290 (by decide) (by decide) (by decide)
theorem ml_291 : gMLk 291 = true := gML_all 291 (by decide) (by decide) (by decide)
theorem ml_292 : gMLk 292 = true := gML_all 292 (by decide) (by decide) (by decide)
theorem ml_293 : gMLk 293 = true := gML_all 293 (by decide) (by decide) (by decide)
theorem ml_294 : gMLk 294 = true := gML_all 294 (by decide) (by decide) (by decide)
theorem ml_295 : gMLk 295 = true := gML_all 295 (by decide) (by decide) (by decide)
theorem ml_296 : gMLk 296 = true := gML_all 296 (by decide) (by decide) (by decide)
theorem ml_297 : gMLk 297 = true := gML_all 297 (by decide) (by decide) (by decide)
theorem ml_299 : gMLk 299 = true := gML_all 299 (by decide) (by decide) (by decide)
theorem ml_3 : gMLk 3 = true := gML_all 3 (by decide) (by decide) (by decide)
theorem ml_30 : gMLk 30 = true := gML_all 30 (by decide) (by decide) (by decide)
theorem ml_300 : gMLk 300 = true := gML_all 300 (by decide) (by decide) (by decide)
theorem ml_301 : gMLk 301 = true := gML_all 301 (by decide) (by decide) (by decide)
theorem ml_302 : gMLk 302 = true := gML_all 302 (by decide) (by decide) (by decide)
theorem ml_303 : gMLk 303 = true := gML_all 303 (by decide) (by decide) (by decide)
theorem ml_304 : gMLk 304 = true := gML_all 304 (by decide) (by decide) (by decide)
theorem ml_305 : gMLk 305 = true := gML_all 305 (by decide) (by decide) (by decide)
theorem ml_306 : gMLk 306 = true := gML_all 306 (by decide) (by decide) (by decide)
theorem ml_307 : gMLk 307 = true := gML_all 307 (by decide) (by decide) (by decide)
theorem ml_308 : gMLk 308 = true := gML_all 308 (by decide) (by decide) (by decide)
theorem ml_309 : gMLk 309 = true := gML_all 309 (by decide) (by decide) (by decide)
theorem ml_31 : gMLk 31 = true := gML_all 31 (by decide) (by decide) (by decide)
theorem ml_310 : gMLk 310 = true := gML_all 310 (by decide) (by decide) (by decide)
theorem ml_311 : gMLk 311 = true := gML_all 311 (by decide) (by decide) (by decide)
theorem ml_312 : gMLk 312 = true := gML_all 312 (by decide) (by decide) (by decide)
theorem ml_313 : gMLk 313 = true := gML_all 313 (by decide) (by decide) (by decide)
theorem ml_314 : gMLk 314 = true := gML_all 314 (by decide) (by decide) (by decide)
theorem ml_315 : gMLk 315 = true := gML_all 315 (by decide) (by decide) (by decide)
theorem ml_316 : gMLk 316 = true := gML_all 316 (by decide) (by decide) (by decide)
theorem ml_317 : gMLk 317 = true := gML_all 317 (by decide) (by decide) (by decide)
theorem ml_318 : gMLk 318 = true := gML_all 318 (by decide) (by decide) (by decide)
theorem ml_319 : gMLk 319 = true := gML_all 319 (by decide) (by decide) (by decide)
theorem ml_32 : gMLk 32 = true := gML_all 32 (by decide) (by decide) (by decide)
theorem ml_320 : gMLk 320 = true := gML_all 320 (by decide) (by decide) (by decide)
theorem ml_321 : gMLk 321 = true := gML_all 321 (by decide) (by decide) (by decide)
theorem ml_322 : gMLk 322 = true := gML_all 322 (by decide) (by decide) (by decide)
theorem ml_323 : gMLk 323 = true := gML_all 323 (by decide) (by decide) (by decide)
theorem ml_324 : gMLk 324 = true := gML_all 324 (by decide) (by decide) (by decide)
theorem ml_325 : gMLk 325 = true := gML_all 325 (by decide) (by decide) (by decide)
theorem ml_326 : gMLk 326 = true := gML_all 326 (by decide) (by decide) (by decide)
theorem ml_327 : gMLk 327 = true := gML_all 327 (by decide) (by decide) (by decide)
theorem ml_328 : gMLk 328 = true := gML_all 328 (by decide) (by decide) (by decide)
theorem ml_329 : gMLk 329 = true := gML_all 329 (by decide) (by decide) (by decide)
theorem ml_33 : gMLk 33 = true := gML_all 33 (by decide) (by decide) (by decide)
theorem ml_330 : gMLk 330 = true := gML_all 330 (by decide) (by decide) (by decide)
theorem ml_331 : gMLk 331 = true := gML_all 331 (by decide) (by decide) (by decide)
theorem ml_332 : gMLk 332 = true := gML_all 332 (by decide) (by decide) (by decide)
theorem ml_333 : gMLk 333 = true := gML_all 333 (by decide) (by decide) (by decide)
theorem ml_334 : gMLk 334 = true := gML_all 334 (by decide) (by decide) (by decide)
theorem ml_335 : gMLk 335 = true := gML_all 335 (by decide) (by decide) (by decide)
theorem ml_336 : gMLk 336 = true := gML_all 336 (by decide) (by decide) (by decide)
theorem ml_337 : gMLk 337 = true := gML_all 337 (by decide) (by decide) (by decide)
theorem ml_338 : gMLk 338 = true := gML_all 338 (by decide) (by decide) (by decide)
theorem ml_339 : gMLk 339 = true := gML_all 339 (by decide) (by decide) (by decide)
theorem ml_34 : gMLk 34 = true := gML_all 34 (by decide) (by decide) (by decide)
theorem ml_340 : gMLk 340 = true := gML_all 340 (by decide) (by decide) (by decide)
theorem ml_341 : gMLk 341 = true := gML_all 341 (by decide) (by decide) (by decide)
theorem ml_342 : gMLk 342 = true := gML_all 342 (by decide) (by decide) (by decide)
theorem ml_343 : gMLk 343 = true := gML_all 343 (by decide) (by decide) (by decide)
theorem ml_344 : gMLk 344 = true := gML_all 344 (by decide) (by decide) (by decide)
theorem ml_345 : gMLk 345 = true := gML_all 345 (by decide) (by decide) (by decide)
theorem ml_346 : gMLk 346 = true := gML_all 346 (by decide) (by decide) (by decide)
theorem ml_347 : gMLk 347 = true := gML_all 347 (by decide) (by decide) (by decide)
theorem ml_348 : gMLk 348 = true := gML_all 348 (by decide) (by decide) (by decide)
theorem ml_349 : gMLk 349 = true := gML_all 349 (by decide) (by decide) (by decide)
theorem ml_35 : gMLk 35 = true := gML_all 35 (by decide) (by decide) (by decide)
theorem ml_350 : gMLk 350 = true := gML_all 350 (by decide) (by decide) (by decide)
theorem ml_351 : gMLk 351 = true := gML_all 351 (by decide) (by decide) (by decide)
theorem ml_352 : gMLk 352 = true := gML_all 352 (by decide) (by decide) (by decide)
theorem ml_353 : gMLk 353 = true := gML_all 353 (by decide) (by decide) (by decide)
theorem ml_354 : gMLk 354 = true := gML_all 354 (by decide) (by decide) (by decide)
theorem ml_355 : gMLk 355 = true := gML_all 355 (by decide) (by decide) (by decide)
theorem ml_356 : gMLk 356 = true := gML_all 356 (by decide) (by decide) (by decide)
theorem ml_357 : gMLk 357 = true := gML_all 357 (by decide) (by decide) (by decide)
theorem ml_358 : gMLk 358 = true := gML_all 358 (by decide) (by decide) (by decide)
theorem ml_359 : gMLk 359 = true := gML_all 359 (by decide) (by decide) (by decide)
theorem ml_36 : gMLk 36 = true := gML_all 36 (by decide) (by decide) (by decide)
theorem ml_360 : gMLk 360 = true := gML_all 360 (by decide) (by decide) (by decide)
theorem ml_361 : gMLk 361 = true := gML_all 361 (by decide) (by decide) (by decide)
theorem ml_363 : gMLk 363 = true := gML_all 363 (by decide) (by decide) (by decide)
theorem ml_364 : gMLk 364 = true := gML_all 364 (by decide) (by decide) (by decide)
theorem ml_367 : gMLk 367 = true := gML_all 367 (by decide) (by decide) (by decide)
theorem ml_368 : gMLk 368 = true := gML_all 368 (by decide) (by decide) (by decide)
theorem ml_37 : gMLk 37 = true := gML_all 37 (by decide) (by decide) (by decide)
theorem ml_38 : gMLk 38 = true := gML_all 38 (by decide) (by decide) (by decide)
theorem ml_39 : gMLk 39 = true := gML_all 39 (by decide) (by decide) (by decide)
theorem ml_40 : gMLk 40 = true := gML_all 40 (by decide) (by decide) (by decide)
theorem ml_41 : gMLk 41 = true := gML_all 41 (by decide) (by decide) (by decide)
theorem ml_42 : gMLk 42 = true := gML_all 42 (by decide) (by decide) (by decide)
theorem ml_43 : gMLk 43 = true := gML_all 43 (by decide) (by decide) (by decide)
theorem ml_44 : gMLk 44 = true := gML_all 44 (by decide) (by decide) (by decide)
theorem ml_45 : gMLk 45 = true := gML_all 45 (by decide) (by decide) (by decide)
theorem ml_46 : gMLk 46 = true := gML_all 46 (by decide) (by decide) (by decide)
theorem ml_47 : gMLk 47 = true := gML_all 47 (by decide) (by decide) (by decide)
theorem ml_48 : gMLk 48 = true := gML_all 48 (by decide) (by decide) (by decide)
theorem ml_49 : gMLk 49 = true := gML_all 49 (by decide) (by decide) (by decide)
theorem ml_5 : gMLk 5 = true := gML_all 5 (by decide) (by decide) (by decide)
theorem ml_50 : gMLk 50 = true := gML_all 50 (by decide) (by decide) (by decide)
theorem ml_51 : gMLk 51 = true := gML_all 51 (by decide) (by decide) (by decide)
theorem ml_52 : gMLk 52 = true := gML_all 52 (by decide) (by decide) (by decide)
theorem ml_53 : gMLk 53 = true := gML_all 53 (by decide) (by decide) (by decide)
theorem ml_54 : gMLk 54 = true := gML_all 54 (by decide) (by decide) (by decide)
theorem ml_55 : gMLk 55 = true := gML_all 55 (by decide) (by decide) (by decide)
theorem ml_56 : gMLk 56 = true := gML_all 56 (by decide) (by decide) (by decide)
theorem ml_57 : gMLk 57 = true := gML_all 57 (by decide) (by decide) (by decide)
theorem ml_58 : gMLk 58 = true := gML_all 58 (by decide) (by decide) (by decide)
theorem ml_59 : gMLk 59 = true := gML_all 59 (by decide) (by decide) (by decide)
theorem ml_6 : gMLk 6 = true := gML_all 6 (by decide) (by decide) (by decide)
theorem ml_60 : gMLk 60 = true := gML_all 60 (by decide) (by decide) (by decide)
theorem ml_61 : gMLk 61 = true := gML_all 61 (by decide) (by decide) (by decide)
theorem ml_62 : gMLk 62 = true := gML_all 62 (by decide) (by decide) (by decide)
theorem ml_64 : gMLk 64 = true := gML_all 64 (by decide) (by decide) (by decide)
theorem ml_65 : gMLk 65 = true := gML_all 65 (by decide) (by decide) (by decide)
theorem ml_66 : gMLk 66 = true := gML_all 66 (by decide) (by decide) (by decide)
theorem ml_67 : gMLk 67 = true := gML_all 67 (by decide) (by decide) (by decide)
theorem ml_68 : gMLk 68 = true := gML_all 68 (by decide) (by decide) (by decide)
theorem ml_69 : gMLk 69 = true := gML_all 69 (by decide) (by decide) (by decide)
theorem ml_7 : gMLk 7 = true := gML_all 7 (by decide) (by decide) (by decide)
theorem ml_70 : gMLk 70 = true := gML_all 70 (by decide) (by decide) (by decide)
theorem ml_71 : gMLk 71 = true := gML_all 71 (by decide) (by decide) (by decide)
theorem ml_72 : gMLk 72 = true := gML_all 72 (by decide) (by decide) (by decide)
theorem ml_73 : gMLk 73 = true := gML_all 73 (by decide) (by decide) (by decide)
theorem ml_74 : gMLk 74 = true := gML_all 74 (by decide) (by decide) (by decide)
theorem ml_75 : gMLk 75 = true := gML_all 75 (by decide) (by decide) (by decide)
theorem ml_76 : gMLk 76 = true := gML_all 76 (by decide) (by decide) (by decide)
theorem ml_77 : gMLk 77 = true := gML_all 77 (by decide) (by decide) (by decide)
theorem ml_78 : gMLk 78 = true := gML_all 78 (by decide) (by decide) (by decide)
theorem ml_8 : gMLk 8 = true := gML_all 8 (by decide) (by decide) (by decide)
theorem ml_80 : gMLk 80 = true := gML_all 80 (by decide) (by decide) (by decide)
theorem ml_81 : gMLk 81 = true := gML_all 81 (by decide) (by decide) (by decide)
theorem ml_82 : gMLk 82 = true := gML_all 82 (by decide) (by decide) (by decide)
theorem ml_83 : gMLk 83 = true := gML_all 83 (by decide) (by decide) (by decide)
theorem ml_84 : gMLk 84 = true := gML_all 84 (by decide) (by decide) (by decide)
theorem ml_85 : gMLk 85 = true := gML_all 85 (by decide) (by decide) (by decide)
theorem ml_86 : gMLk 86 = true := gML_all 86 (by decide) (by decide) (by decide)
theorem ml_87 : gMLk 87 = true := gML_all 87 (by decide) (by decide) (by decide)
theorem ml_88 : gMLk 88 = true := gML_all 88 (by decide) (by decide) (by decide)
theorem ml_89 : gMLk 89 = true := gML_all 89 (by decide) (by decide) (by decide)
theorem ml_9 : gMLk 9 = true := gML_all 9 (by decide) (by decide) (by decide)
theorem ml_90 : gMLk 90 = true := gML_all 90 (by decide) (by decide) (by decide)
theorem ml_91 : gMLk 91 = true := gML_all 91 (by decide) (by decide) (by decide)
theorem ml_92 : gMLk 92 = true := gML_all 92 (by decide) (by decide) (by decide)
theorem ml_93 : gMLk 93 = true := gML_all 93 (by decide) (by decide) (by decide)
theorem ml_94 : gMLk 94 = true := gML_all 94 (by decide) (by decide) (by decide)
theorem ml_96 : gMLk 96 = true := gML_all 96 (by decide) (by decide) (by decide)
theorem ml_97 : gMLk 97 = true := gML_all 97 (by decide) (by decide) (by decide)
theorem ml_98 : gMLk 98 = true := gML_all 98 (by decide) (by decide) (by decide)
theorem ml_99 : gMLk 99 = true := gML_all 99 (by decide) (by decide) (by decide)
theorem mx_1 : gmx 1 = 4 := by decide +kernel
theorem mx_10 : gmx 10 = 3 := by decide +kernel
theorem mx_100 : gmx 100 = 2 := by decide +kernel
theorem mx_101 : gmx 101 = 1 := by decide +kernel
theorem mx_102 : gmx 102 = 1 := by decide +kernel
theorem mx_103 : gmx 103 = 2 := by decide +kernel
theorem mx_104 : gmx 104 = 2 := by decide +kernel
theorem mx_105 : gmx 105 = 6 := by decide +kernel
theorem mx_106 : gmx 106 = 5 := by decide +kernel
theorem mx_108 : gmx 108 = 2 := by decide +kernel
theorem mx_109 : gmx 109 = 2 := by decide +kernel
theorem mx_11 : gmx 11 = 4 := by decide +kernel
theorem mx_110 : gmx 110 = 3 := by decide +kernel
theorem mx_111 : gmx 111 = 4 := by decide +kernel
theorem mx_112 : gmx 112 = 8 := by decide +kernel
theorem mx_113 : gmx 113 = 5 := by decide +kernel
theorem mx_114 : gmx 114 = 6 := by decide +kernel
theorem mx_115 : gmx 115 = 1 := by decide +kernel
theorem mx_117 : gmx 117 = 3 := by decide +kernel
theorem mx_118 : gmx 118 = 1 := by decide +kernel
theorem mx_119 : gmx 119 = 4 := by decide +kernel
theorem mx_12 : gmx 12 = 3 := by decide +kernel
theorem mx_120 : gmx 120 = 6 := by decide +kernel
theorem mx_121 : gmx 121 = 4 := by decide +kernel
theorem mx_122 : gmx 122 = 2 := by decide +kernel
theorem mx_123 : gmx 123 = 3 := by decide +kernel
theorem mx_124 : gmx 124 = 2 := by decide +kernel
theorem mx_125 : gmx 125 = 7 := by decide +kernel
theorem mx_126 : gmx 126 = 4 := by decide +kernel
theorem mx_127 : gmx 127 = 3 := by decide +kernel
theorem mx_129 : gmx 129 = 1 := by decide +kernel
theorem mx_13 : gmx 13 = 3 := by decide +kernel
theorem mx_130 : gmx 130 = 1 := by decide +kernel
theorem mx_131 : gmx 131 = 3 := by decide +kernel
theorem mx_132 : gmx 132 = 2 := by decide +kernel
theorem mx_133 : gmx 133 = 1 := by decide +kernel
theorem mx_134 : gmx 134 = 4 := by decide +kernel
theorem mx_135 : gmx 135 = 3 := by decide +kernel
theorem mx_136 : gmx 136 = 2 := by decide +kernel
theorem mx_137 : gmx 137 = 2 := by decide +kernel
theorem mx_138 : gmx 138 = 2 := by decide +kernel
theorem mx_139 : gmx 139 = 4 := by decide +kernel
theorem mx_14 : gmx 14 = 5 := by decide +kernel
theorem mx_140 : gmx 140 = 2 := by decide +kernel
theorem mx_141 : gmx 141 = 2 := by decide +kernel
theorem mx_142 : gmx 142 = 1 := by decide +kernel
theorem mx_143 : gmx 143 = 4 := by decide +kernel
theorem mx_144 : gmx 144 = 5 := by decide +kernel
theorem mx_145 : gmx 145 = 3 := by decide +kernel
theorem mx_146 : gmx 146 = 3 := by decide +kernel
theorem mx_147 : gmx 147 = 4 := by decide +kernel
theorem mx_148 : gmx 148 = 1 := by decide +kernel
theorem mx_149 : gmx 149 = 1 := by decide +kernel
theorem mx_15 : gmx 15 = 1 := by decide +kernel
theorem mx_150 : gmx 150 = 1 := by decide +kernel
theorem mx_151 : gmx 151 = 2 := by decide +kernel
theorem mx_152 : gmx 152 = 3 := by decide +kernel
theorem mx_153 : gmx 153 = 3 := by decide +kernel
theorem mx_154 : gmx 154 = 3 := by decide +kernel
theorem mx_155 : gmx 155 = 2 := by decide +kernel
theorem mx_156 : gmx 156 = 3 := by decide +kernel
theorem mx_158 : gmx 158 = 2 := by decide +kernel
theorem mx_159 : gmx 159 = 1 := by decide +kernel
theorem mx_16 : gmx 16 = 5 := by decide +kernel
theorem mx_160 : gmx 160 = 2 := by decide +kernel
theorem mx_161 : gmx 161 = 6 := by decide +kernel
theorem mx_162 : gmx 162 = 5 := by decide +kernel
theorem mx_163 : gmx 163 = 1 := by decide +kernel
theorem mx_164 : gmx 164 = 3 := by decide +kernel
theorem mx_165 : gmx 165 = 3 := by decide +kernel
theorem mx_166 : gmx 166 = 2 := by decide +kernel
theorem mx_167 : gmx 167 = 2 := by decide +kernel
theorem mx_168 : gmx 168 = 2 := by decide +kernel
theorem mx_169 : gmx 169 = 3 := by decide +kernel
theorem mx_17 : gmx 17 = 1 := by decide +kernel
theorem mx_170 : gmx 170 = 3 := by decide +kernel
theorem mx_171 : gmx 171 = 3 := by decide +kernel
theorem mx_172 : gmx 172 = 3 := by decide +kernel
theorem mx_174 : gmx 174 = 2 := by decide +kernel
theorem mx_175 : gmx 175 = 3 := by decide +kernel
theorem mx_176 : gmx 176 = 2 := by decide +kernel
theorem mx_177 : gmx 177 = 2 := by decide +kernel
theorem mx_178 : gmx 178 = 5 := by decide +kernel
theorem mx_179 : gmx 179 = 3 := by decide +kernel
theorem mx_18 : gmx 18 = 3 := by decide +kernel
theorem mx_181 : gmx 181 = 2 := by decide +kernel
theorem mx_182 : gmx 182 = 2 := by decide +kernel
theorem mx_183 : gmx 183 = 3 := by decide +kernel
theorem mx_184 : gmx 184 = 1 := by decide +kernel
theorem mx_185 : gmx 185 = 4 := by decide +kernel
theorem mx_186 : gmx 186 = 6 := by decide +kernel
theorem mx_187 : gmx 187 = 4 := by decide +kernel
theorem mx_188 : gmx 188 = 3 := by decide +kernel
theorem mx_189 : gmx 189 = 3 := by decide +kernel
theorem mx_19 : gmx 19 = 2 := by decide +kernel
theorem mx_190 : gmx 190 = 3 := by decide +kernel
theorem mx_191 : gmx 191 = 2 := by decide +kernel
theorem mx_192 : gmx 192 = 4 := by decide +kernel
theorem mx_193 : gmx 193 = 2 := by decide +kernel
theorem mx_194 : gmx 194 = 4 := by decide +kernel
theorem mx_195 : gmx 195 = 1 := by decide +kernel
theorem mx_197 : gmx 197 = 4 := by decide +kernel
theorem mx_198 : gmx 198 = 2 := by decide +kernel
theorem mx_199 : gmx 199 = 2 := by decide +kernel
theorem mx_2 : gmx 2 = 5 := by decide +kernel
theorem mx_20 : gmx 20 = 2 := by decide +kernel
theorem mx_200 : gmx 200 = 1 := by decide +kernel
theorem mx_201 : gmx 201 = 2 := by decide +kernel
theorem mx_202 : gmx 202 = 1 := by decide +kernel
theorem mx_203 : gmx 203 = 5 := by decide +kernel
theorem mx_204 : gmx 204 = 2 := by decide +kernel
theorem mx_205 : gmx 205 = 2 := by decide +kernel
theorem mx_206 : gmx 206 = 3 := by decide +kernel
theorem mx_207 : gmx 207 = 7 := by decide +kernel
theorem mx_208 : gmx 208 = 3 := by decide +kernel
theorem mx_209 : gmx 209 = 3 := by decide +kernel
theorem mx_21 : gmx 21 = 2 := by decide +kernel
theorem mx_210 : gmx 210 = 3 := by decide +kernel
theorem mx_211 : gmx 211 = 3 := by decide +kernel
theorem mx_212 : gmx 212 = 2 := by decide +kernel
theorem mx_213 : gmx 213 = 3 := by decide +kernel
theorem mx_214 : gmx 214 = 2 := by decide +kernel
theorem mx_215 : gmx 215 = 4 := by decide +kernel
theorem mx_216 : gmx 216 = 1 := by decide +kernel
theorem mx_217 : gmx 217 = 5 := by decide +kernel
theorem mx_218 : gmx 218 = 6 := by decide +kernel
theorem mx_219 : gmx 219 = 4 := by decide +kernel
theorem mx_22 : gmx 22 = 2 := by decide +kernel
theorem mx_220 : gmx 220 = 2 := by decide +kernel
theorem mx_221 : gmx 221 = 1 := by decide +kernel
theorem mx_222 : gmx 222 = 3 := by decide +kernel
theorem mx_223 : gmx 223 = 3 := by decide +kernel
theorem mx_224 : gmx 224 = 3 := by decide +kernel
theorem mx_225 : gmx 225 = 2 := by decide +kernel
theorem mx_226 : gmx 226 = 3 := by decide +kernel
theorem mx_227 : gmx 227 = 2 := by decide +kernel
theorem mx_228 : gmx 228 = 5 := by decide +kernel
theorem mx_229 : gmx 229 = 4 := by decide +kernel
theorem mx_23 : gmx 23 = 1 := by decide +kernel
theorem mx_230 : gmx 230 = 3 := by decide +kernel
theorem mx_231 : gmx 231 = 3 := by decide +kernel
theorem mx_232 : gmx 232 = 4 := by decide +kernel
theorem mx_233 : gmx 233 = 2 := by decide +kernel
theorem mx_234 : gmx 234 = 2 := by decide +kernel
theorem mx_235 : gmx 235 = 2 := by decide +kernel
theorem mx_236 : gmx 236 = 4 := by decide +kernel
theorem mx_237 : gmx 237 = 4 := by decide +kernel
theorem mx_238 : gmx 238 = 4 := by decide +kernel
theorem mx_239 : gmx 239 = 4 := by decide +kernel
theorem mx_24 : gmx 24 = 1 := by decide +kernel
theorem mx_240 : gmx 240 = 5 := by decide +kernel
theorem mx_241 : gmx 241 = 4 := by decide +kernel
theorem mx_242 : gmx 242 = 2 := by decide +kernel
theorem mx_243 : gmx 243 = 2 := by decide +kernel
theorem mx_244 : gmx 244 = 1 := by decide +kernel
theorem mx_245 : gmx 245 = 7 := by decide +kernel
theorem mx_246 : gmx 246 = 8 := by decide +kernel
theorem mx_247 : gmx 247 = 2 := by decide +kernel
theorem mx_248 : gmx 248 = 3 := by decide +kernel
theorem mx_249 : gmx 249 = 3 := by decide +kernel
theorem mx_25 : gmx 25 = 1 := by decide +kernel
theorem mx_250 : gmx 250 = 6 := by decide +kernel
theorem mx_251 : gmx 251 = 3 := by decide +kernel
theorem mx_252 : gmx 252 = 5 := by decide +kernel
theorem mx_253 : gmx 253 = 2 := by decide +kernel
theorem mx_254 : gmx 254 = 2 := by decide +kernel
theorem mx_255 : gmx 255 = 1 := by decide +kernel
theorem mx_256 : gmx 256 = 6 := by decide +kernel
theorem mx_257 : gmx 257 = 2 := by decide +kernel
theorem mx_258 : gmx 258 = 3 := by decide +kernel
theorem mx_259 : gmx 259 = 3 := by decide +kernel
theorem mx_26 : gmx 26 = 6 := by decide +kernel
theorem mx_260 : gmx 260 = 3 := by decide +kernel
theorem mx_261 : gmx 261 = 5 := by decide +kernel
theorem mx_262 : gmx 262 = 3 := by decide +kernel
theorem mx_263 : gmx 263 = 3 := by decide +kernel
theorem mx_264 : gmx 264 = 6 := by decide +kernel
theorem mx_265 : gmx 265 = 2 := by decide +kernel
theorem mx_266 : gmx 266 = 3 := by decide +kernel
theorem mx_267 : gmx 267 = 6 := by decide +kernel
theorem mx_268 : gmx 268 = 10 := by decide +kernel
theorem mx_269 : gmx 269 = 5 := by decide +kernel
theorem mx_27 : gmx 27 = 3 := by decide +kernel
theorem mx_270 : gmx 270 = 4 := by decide +kernel
theorem mx_271 : gmx 271 = 9 := by decide +kernel
theorem mx_272 : gmx 272 = 1 := by decide +kernel
theorem mx_273 : gmx 273 = 6 := by decide +kernel
theorem mx_274 : gmx 274 = 1 := by decide +kernel
theorem mx_275 : gmx 275 = 5 := by decide +kernel
theorem mx_276 : gmx 276 = 2 := by decide +kernel
theorem mx_277 : gmx 277 = 4 := by decide +kernel
theorem mx_278 : gmx 278 = 2 := by decide +kernel
theorem mx_279 : gmx 279 = 2 := by decide +kernel
theorem mx_28 : gmx 28 = 3 := by decide +kernel
theorem mx_280 : gmx 280 = 5 := by decide +kernel
theorem mx_281 : gmx 281 = 4 := by decide +kernel
theorem mx_282 : gmx 282 = 3 := by decide +kernel
theorem mx_283 : gmx 283 = 1 := by decide +kernel
theorem mx_284 : gmx 284 = 1 := by decide +kernel
theorem mx_285 : gmx 285 = 3 := by decide +kernel
theorem mx_286 : gmx 286 = 4 := by decide +kernel
theorem mx_287 : gmx 287 = 4 := by decide +kernel
theorem mx_288 : gmx 288 = 2 := by decide +kernel
theorem mx_289 : gmx 289 = 3 := by decide +kernel
theorem mx_29 : gmx 29 = 2 := by decide +kernel
theorem mx_290 : gmx 290 = 2 := by decide +kernel
theorem mx_291 : gmx 291 = 1 := by decide +kernel
theorem mx_292 : gmx 292 = 9 := by decide +kernel
theorem mx_293 : gmx 293 = 4 := by decide +kernel
theorem mx_294 : gmx 294 = 5 := by decide +kernel
theorem mx_295 : gmx 295 = 8 := by decide +kernel
theorem mx_296 : gmx 296 = 1 := by decide +kernel
theorem mx_297 : gmx 297 = 4 := by decide +kernel
theorem mx_299 : gmx 299 = 3 := by decide +kernel
theorem mx_3 : gmx 3 = 7 := by decide +kernel
theorem mx_30 : gmx 30 = 1 := by decide +kernel
theorem mx_300 : gmx 300 = 1 := by decide +kernel
theorem mx_301 : gmx 301 = 4 := by decide +kernel
theorem mx_302 : gmx 302 = 10 := by decide +kernel
theorem mx_303 : gmx 303 = 4 := by decide +kernel
theorem mx_304 : gmx 304 = 2 := by decide +kernel
theorem mx_305 : gmx 305 = 6 := by decide +kernel
theorem mx_306 : gmx 306 = 5 := by decide +kernel
theorem mx_307 : gmx 307 = 3 := by decide +kernel
theorem mx_308 : gmx 308 = 4 := by decide +kernel
theorem mx_309 : gmx 309 = 4 := by decide +kernel
theorem mx_31 : gmx 31 = 3 := by decide +kernel
theorem mx_310 : gmx 310 = 1 := by decide +kernel
theorem mx_311 : gmx 311 = 6 := by decide +kernel
theorem mx_312 : gmx 312 = 2 := by decide +kernel
theorem mx_313 : gmx 313 = 3 := by decide +kernel
theorem mx_314 : gmx 314 = 2 := by decide +kernel
theorem mx_315 : gmx 315 = 6 := by decide +kernel
theorem mx_316 : gmx 316 = 3 := by decide +kernel
theorem mx_317 : gmx 317 = 5 := by decide +kernel
theorem mx_318 : gmx 318 = 5 := by decide +kernel
theorem mx_319 : gmx 319 = 5 := by decide +kernel
theorem mx_32 : gmx 32 = 4 := by decide +kernel
theorem mx_320 : gmx 320 = 7 := by decide +kernel
theorem mx_321 : gmx 321 = 6 := by decide +kernel
theorem mx_322 : gmx 322 = 5 := by decide +kernel
theorem mx_323 : gmx 323 = 6 := by decide +kernel
theorem mx_324 : gmx 324 = 3 := by decide +kernel
theorem mx_325 : gmx 325 = 4 := by decide +kernel
theorem mx_326 : gmx 326 = 4 := by decide +kernel
theorem mx_327 : gmx 327 = 4 := by decide +kernel
theorem mx_328 : gmx 328 = 3 := by decide +kernel
theorem mx_329 : gmx 329 = 4 := by decide +kernel
theorem mx_33 : gmx 33 = 3 := by decide +kernel
theorem mx_330 : gmx 330 = 4 := by decide +kernel
theorem mx_331 : gmx 331 = 4 := by decide +kernel
theorem mx_332 : gmx 332 = 3 := by decide +kernel
theorem mx_333 : gmx 333 = 3 := by decide +kernel
theorem mx_334 : gmx 334 = 3 := by decide +kernel
theorem mx_335 : gmx 335 = 3 := by decide +kernel
theorem mx_336 : gmx 336 = 5 := by decide +kernel
theorem mx_337 : gmx 337 = 5 := by decide +kernel
theorem mx_338 : gmx 338 = 2 := by decide +kernel
theorem mx_339 : gmx 339 = 2 := by decide +kernel
theorem mx_34 : gmx 34 = 2 := by decide +kernel
theorem mx_340 : gmx 340 = 4 := by decide +kernel
theorem mx_341 : gmx 341 = 5 := by decide +kernel
theorem mx_342 : gmx 342 = 2 := by decide +kernel
theorem mx_343 : gmx 343 = 2 := by decide +kernel
theorem mx_344 : gmx 344 = 9 := by decide +kernel
theorem mx_345 : gmx 345 = 7 := by decide +kernel
theorem mx_346 : gmx 346 = 13 := by decide +kernel
theorem mx_347 : gmx 347 = 7 := by decide +kernel
theorem mx_348 : gmx 348 = 8 := by decide +kernel
theorem mx_349 : gmx 349 = 2 := by decide +kernel
theorem mx_35 : gmx 35 = 3 := by decide +kernel
theorem mx_350 : gmx 350 = 2 := by decide +kernel
theorem mx_351 : gmx 351 = 5 := by decide +kernel
theorem mx_352 : gmx 352 = 4 := by decide +kernel
theorem mx_353 : gmx 353 = 3 := by decide +kernel
theorem mx_354 : gmx 354 = 4 := by decide +kernel
theorem mx_355 : gmx 355 = 2 := by decide +kernel
theorem mx_356 : gmx 356 = 2 := by decide +kernel
theorem mx_357 : gmx 357 = 2 := by decide +kernel
theorem mx_358 : gmx 358 = 3 := by decide +kernel
theorem mx_359 : gmx 359 = 3 := by decide +kernel
theorem mx_36 : gmx 36 = 4 := by decide +kernel
theorem mx_360 : gmx 360 = 3 := by decide +kernel
theorem mx_361 : gmx 361 = 3 := by decide +kernel
theorem mx_363 : gmx 363 = 2 := by decide +kernel
theorem mx_364 : gmx 364 = 1 := by decide +kernel
theorem mx_367 : gmx 367 = 3 := by decide +kernel
theorem mx_368 : gmx 368 = 5 := by decide +kernel
theorem mx_37 : gmx 37 = 5 := by decide +kernel
theorem mx_38 : gmx 38 = 3 := by decide +kernel
theorem mx_39 : gmx 39 = 2 := by decide +kernel
theorem mx_40 : gmx 40 = 5 := by decide +kernel
theorem mx_41 : gmx 41 = 2 := by decide +kernel
theorem mx_42 : gmx 42 = 2 := by decide +kernel
theorem mx_43 : gmx 43 = 3 := by decide +kernel
theorem mx_44 : gmx 44 = 3 := by decide +kernel
theorem mx_45 : gmx 45 = 2 := by decide +kernel
theorem mx_46 : gmx 46 = 2 := by decide +kernel
theorem mx_47 : gmx 47 = 2 := by decide +kernel
theorem mx_48 : gmx 48 = 4 := by decide +kernel
theorem mx_49 : gmx 49 = 7 := by decide +kernel
theorem mx_5 : gmx 5 = 1 := by decide +kernel
theorem mx_50 : gmx 50 = 6 := by decide +kernel
theorem mx_51 : gmx 51 = 4 := by decide +kernel
theorem mx_52 : gmx 52 = 1 := by decide +kernel
theorem mx_53 : gmx 53 = 1 := by decide +kernel
theorem mx_54 : gmx 54 = 3 := by decide +kernel
theorem mx_55 : gmx 55 = 3 := by decide +kernel
theorem mx_56 : gmx 56 = 2 := by decide +kernel
theorem mx_57 : gmx 57 = 4 := by decide +kernel
theorem mx_58 : gmx 58 = 1 := by decide +kernel
theorem mx_59 : gmx 59 = 3 := by decide +kernel
theorem mx_6 : gmx 6 = 2 := by decide +kernel
theorem mx_60 : gmx 60 = 4 := by decide +kernel
theorem mx_61 : gmx 61 = 1 := by decide +kernel
theorem mx_62 : gmx 62 = 2 := by decide +kernel
theorem mx_64 : gmx 64 = 1 := by decide +kernel
theorem mx_65 : gmx 65 = 2 := by decide +kernel
theorem mx_66 : gmx 66 = 2 := by decide +kernel
theorem mx_67 : gmx 67 = 2 := by decide +kernel
theorem mx_68 : gmx 68 = 4 := by decide +kernel
theorem mx_69 : gmx 69 = 4 := by decide +kernel
theorem mx_7 : gmx 7 = 2 := by decide +kernel
theorem mx_70 : gmx 70 = 4 := by decide +kernel
theorem mx_71 : gmx 71 = 2 := by decide +kernel
theorem mx_72 : gmx 72 = 1 := by decide +kernel
theorem mx_73 : gmx 73 = 3 := by decide +kernel
theorem mx_74 : gmx 74 = 4 := by decide +kernel
theorem mx_75 : gmx 75 = 2 := by decide +kernel
theorem mx_76 : gmx 76 = 2 := by decide +kernel
theorem mx_77 : gmx 77 = 2 := by decide +kernel
theorem mx_78 : gmx 78 = 6 := by decide +kernel
theorem mx_8 : gmx 8 = 2 := by decide +kernel
theorem mx_80 : gmx 80 = 2 := by decide +kernel
theorem mx_81 : gmx 81 = 2 := by decide +kernel
theorem mx_82 : gmx 82 = 2 := by decide +kernel
theorem mx_83 : gmx 83 = 2 := by decide +kernel
theorem mx_84 : gmx 84 = 3 := by decide +kernel
theorem mx_85 : gmx 85 = 4 := by decide +kernel
theorem mx_86 : gmx 86 = 8 := by decide +kernel
theorem mx_87 : gmx 87 = 2 := by decide +kernel
theorem mx_88 : gmx 88 = 3 := by decide +kernel
theorem mx_89 : gmx 89 = 2 := by decide +kernel
theorem mx_9 : gmx 9 = 2 := by decide +kernel
theorem mx_90 : gmx 90 = 2 := by decide +kernel
theorem mx_91 : gmx 91 = 3 := by decide +kernel
theorem mx_92 : gmx 92 = 8 := by decide +kernel
theorem mx_93 : gmx 93 = 4 := by decide +kernel
theorem mx_94 : gmx 94 = 7 := by decide +kernel
theorem mx_96 : gmx 96 = 3 := by decide +kernel
theorem mx_97 : gmx 97 = 3 := by decide +kernel
theorem mx_98 : gmx 98 = 2 := by decide +kernel
theorem mx_99 : gmx 99 = 1 := by decide +kernel
theorem nf_0_11 : ((gcl 0).2.1 11).2.2.2 = false := rfl
theorem nf_0_12 : ((gcl 0).2.1 12).2.2.2 = false := rfl
theorem nf_0_13 : ((gcl 0).2.1 13).2.2.2 = false := rfl
theorem nf_11_1 : ((gcl 11).2.1 1).2.2.2 = false := rfl
theorem nf_11_10 : ((gcl 11).2.1 10).2.2.2 = false := rfl
theorem nf_11_104 : ((gcl 11).2.1 104).2.2.2 = false := rfl
theorem nf_11_106 : ((gcl 11).2.1 106).2.2.2 = false := rfl
theorem nf_11_107 : ((gcl 11).2.1 107).2.2.2 = false := rfl
theorem nf_11_11 : ((gcl 11).2.1 11).2.2.2 = false := rfl
theorem nf_11_128 : ((gcl 11).2.1 128).2.2.2 = false := rfl
theorem nf_11_13 : ((gcl 11).2.1 13).2.2.2 = false := rfl
theorem nf_11_130 : ((gcl 11).2.1 130).2.2.2 = false := rfl
theorem nf_11_139 : ((gcl 11).2.1 139).2.2.2 = false := rfl
theorem nf_11_14 : ((gcl 11).2.1 14).2.2.2 = false := rfl
theorem nf_11_141 : ((gcl 11).2.1 141).2.2.2 = false := rfl
theorem nf_11_144 : ((gcl 11).2.1 144).2.2.2 = false := rfl
theorem nf_11_145 : ((gcl 11).2.1 145).2.2.2 = false := rfl
theorem nf_11_146 : ((gcl 11).2.1 146).2.2.2 = false := rfl
theorem nf_11_147 : ((gcl 11).2.1 147).2.2.2 = false := rfl
theorem nf_11_16 : ((gcl 11).2.1 16).2.2.2 = false := rfl
theorem nf_11_17 : ((gcl 11).2.1 17).2.2.2 = false := rfl
theorem nf_11_18 : ((gcl 11).2.1 18).2.2.2 = false := rfl
theorem nf_11_19 : ((gcl 11).2.1 19).2.2.2 = false := rfl
theorem nf_11_20 : ((gcl 11).2.1 20).2.2.2 = false := rfl
theorem nf_11_21 : ((gcl 11).2.1 21).2.2.2 = false := rfl
theorem nf_11_22 : ((gcl 11).2.1 22).2.2.2 = false := rfl
theorem nf_11_23 : ((gcl 11).2.1 23).2.2.2 = false := rfl
theorem nf_11_24 : ((gcl 11).2.1 24).2.2.2 = false := rfl
theorem nf_11_25 : ((gcl 11).2.1 25).2.2.2 = false := rfl
theorem nf_11_27 : ((gcl 11).2.1 27).2.2.2 = false := rfl
theorem nf_11_28 : ((gcl 11).2.1 28).2.2.2 = false := rfl
theorem nf_11_29 : ((gcl 11).2.1 29).2.2.2 = false := rfl
theorem nf_11_30 : ((gcl 11).2.1 30).2.2.2 = false := rfl
theorem nf_11_31 : ((gcl 11).2.1 31).2.2.2 = false := rfl
theorem nf_11_32 : ((gcl 11).2.1 32).2.2.2 = false := rfl
theorem nf_11_33 : ((gcl 11).2.1 33).2.2.2 = false := rfl
theorem nf_11_34 : ((gcl 11).2.1 34).2.2.2 = false := rfl
theorem nf_11_35 : ((gcl 11).2.1 35).2.2.2 = false := rfl
theorem nf_11_36 : ((gcl 11).2.1 36).2.2.2 = false := rfl
theorem nf_11_37 : ((gcl 11).2.1 37).2.2.2 = false := rfl
theorem nf_11_38 : ((gcl 11).2.1 38).2.2.2 = false := rfl
theorem nf_11_41 : ((gcl 11).2.1 41).2.2.2 = false := rfl
theorem nf_11_43 : ((gcl 11).2.1 43).2.2.2 = false := rfl
theorem nf_11_48 : ((gcl 11).2.1 48).2.2.2 = false := rfl
theorem nf_11_49 : ((gcl 11).2.1 49).2.2.2 = false := rfl
theorem nf_11_58 : ((gcl 11).2.1 58).2.2.2 = false := rfl
theorem nf_11_60 : ((gcl 11).2.1 60).2.2.2 = false := rfl
theorem nf_11_61 : ((gcl 11).2.1 61).2.2.2 = false := rfl
theorem nf_11_62 : ((gcl 11).2.1 62).2.2.2 = false := rfl
theorem nf_11_63 : ((gcl 11).2.1 63).2.2.2 = false := rfl
theorem nf_11_64 : ((gcl 11).2.1 64).2.2.2 = false := rfl
theorem nf_11_65 : ((gcl 11).2.1 65).2.2.2 = false := rfl
theorem nf_11_67 : ((gcl 11).2.1 67).2.2.2 = false := rfl
theorem nf_11_68 : ((gcl 11).2.1 68).2.2.2 = false := rfl
theorem nf_11_69 : ((gcl 11).2.1 69).2.2.2 = false := rfl
theorem nf_11_70 : ((gcl 11).2.1 70).2.2.2 = false := rfl
theorem nf_11_71 : ((gcl 11).2.1 71).2.2.2 = false := rfl
theorem nf_11_72 : ((gcl 11).2.1 72).2.2.2 = false := rfl
theorem nf_11_77 : ((gcl 11).2.1 77).2.2.2 = false := rfl
theorem nf_11_80 : ((gcl 11).2.1 80).2.2.2 = false := rfl
theorem nf_11_81 : ((gcl 11).2.1 81).2.2.2 = false := rfl
theorem nf_11_83 : ((gcl 11).2.1 83).2.2.2 = false := rfl
theorem nf_11_86 : ((gcl 11).2.1 86).2.2.2 = false := rfl
theorem nf_11_87 : ((gcl 11).2.1 87).2.2.2 = false := rfl
theorem nf_11_9 : ((gcl 11).2.1 9).2.2.2 = false := rfl
theorem nf_11_90 : ((gcl 11).2.1 90).2.2.2 = false := rfl
theorem nf_1_1 : ((gcl 1).2.1 1).2.2.2 = false := rfl
theorem nf_2_10 : ((gcl 2).2.1 10).2.2.2 = false := rfl
theorem nf_2_11 : ((gcl 2).2.1 11).2.2.2 = false := rfl
theorem nf_2_12 : ((gcl 2).2.1 12).2.2.2 = false := rfl
theorem nf_2_8 : ((gcl 2).2.1 8).2.2.2 = false := rfl
theorem nf_2_9 : ((gcl 2).2.1 9).2.2.2 = false := rfl
theorem nf_3_10 : ((gcl 3).2.1 10).2.2.2 = false := rfl
theorem nf_3_11 : ((gcl 3).2.1 11).2.2.2 = false := rfl
theorem nf_3_12 : ((gcl 3).2.1 12).2.2.2 = false := rfl
theorem nf_3_13 : ((gcl 3).2.1 13).2.2.2 = false := rfl
theorem nf_3_14 : ((gcl 3).2.1 14).2.2.2 = false := rfl
theorem nf_3_15 : ((gcl 3).2.1 15).2.2.2 = false := rfl
theorem nf_3_16 : ((gcl 3).2.1 16).2.2.2 = false := rfl
theorem nf_3_17 : ((gcl 3).2.1 17).2.2.2 = false := rfl
theorem nf_3_18 : ((gcl 3).2.1 18).2.2.2 = false := rfl
theorem nf_3_6 : ((gcl 3).2.1 6).2.2.2 = false := rfl
theorem nf_3_7 : ((gcl 3).2.1 7).2.2.2 = false := rfl
theorem nf_3_8 : ((gcl 3).2.1 8).2.2.2 = false := rfl
theorem nf_3_9 : ((gcl 3).2.1 9).2.2.2 = false := rfl
theorem nf_4_2 : ((gcl 4).2.1 2).2.2.2 = false := rfl
theorem nf_5_12 : ((gcl 5).2.1 12).2.2.2 = false := rfl
theorem nf_5_13 : ((gcl 5).2.1 13).2.2.2 = false := rfl
theorem nf_5_14 : ((gcl 5).2.1 14).2.2.2 = false := rfl
theorem nf_5_15 : ((gcl 5).2.1 15).2.2.2 = false := rfl
theorem nf_5_16 : ((gcl 5).2.1 16).2.2.2 = false := rfl
theorem nf_5_17 : ((gcl 5).2.1 17).2.2.2 = false := rfl
theorem nf_6_10 : ((gcl 6).2.1 10).2.2.2 = false := rfl
theorem nf_6_11 : ((gcl 6).2.1 11).2.2.2 = false := rfl
theorem nf_6_12 : ((gcl 6).2.1 12).2.2.2 = false := rfl
theorem nf_6_13 : ((gcl 6).2.1 13).2.2.2 = false := rfl
theorem nf_6_14 : ((gcl 6).2.1 14).2.2.2 = false := rfl
theorem nf_6_15 : ((gcl 6).2.1 15).2.2.2 = false := rfl
theorem nf_6_16 : ((gcl 6).2.1 16).2.2.2 = false := rfl
theorem nf_6_17 : ((gcl 6).2.1 17).2.2.2 = false := rfl
theorem nf_6_18 : ((gcl 6).2.1 18).2.2.2 = false := rfl
theorem nf_6_8 : ((gcl 6).2.1 8).2.2.2 = false := rfl
theorem nf_6_9 : ((gcl 6).2.1 9).2.2.2 = false := rfl
theorem nf_7_5 : ((gcl 7).2.1 5).2.2.2 = false := rfl
theorem nf_7_6 : ((gcl 7).2.1 6).2.2.2 = false := rfl
theorem nf_8_2 : ((gcl 8).2.1 2).2.2.2 = false := rfl
theorem nf_8_3 : ((gcl 8).2.1 3).2.2.2 = false := rfl
theorem nf_8_4 : ((gcl 8).2.1 4).2.2.2 = false := rfl
theorem nf_8_5 : ((gcl 8).2.1 5).2.2.2 = false := rfl
theorem nf_9_1 : ((gcl 9).2.1 1).2.2.2 = false := rfl
theorem nf_9_10 : ((gcl 9).2.1 10).2.2.2 = false := rfl
theorem nf_9_11 : ((gcl 9).2.1 11).2.2.2 = false := rfl
theorem nf_9_12 : ((gcl 9).2.1 12).2.2.2 = false := rfl
theorem nf_9_13 : ((gcl 9).2.1 13).2.2.2 = false := rfl
theorem nf_9_14 : ((gcl 9).2.1 14).2.2.2 = false := rfl
theorem nf_9_15 : ((gcl 9).2.1 15).2.2.2 = false := rfl
theorem nf_9_16 : ((gcl 9).2.1 16).2.2.2 = false := rfl
theorem nf_9_2 : ((gcl 9).2.1 2).2.2.2 = false := rfl
theorem nf_9_3 : ((gcl 9).2.1 3).2.2.2 = false := rfl
theorem nf_9_4 : ((gcl 9).2.1 4).2.2.2 = false := rfl
theorem nf_9_5 : ((gcl 9).2.1 5).2.2.2 = false := rfl
theorem nf_9_6 : ((gcl 9).2.1 6).2.2.2 = false := rfl
theorem nf_9_7 : ((gcl 9).2.1 7).2.2.2 = false := rfl
theorem nf_9_8 : ((gcl 9).2.1 8).2.2.2 = false := rfl
theorem nf_9_9 : ((gcl 9).2.1 9).2.2.2 = false := rfl
theorem ow_10 : gown 10 = 1 := by decide +kernel
theorem ow_100 : gown 100 = 4 := by decide +kernel
theorem ow_101 : gown 101 = 4 := by decide +kernel
theorem ow_102 : gown 102 = 4 := by decide +kernel
theorem ow_103 : gown 103 = 4 := by decide +kernel
theorem ow_104 : gown 104 = 4 := by decide +kernel
theorem ow_105 : gown 105 = 4 := by decide +kernel
theorem ow_106 : gown 106 = 4 := by decide +kernel
theorem ow_108 : gown 108 = 5 := by decide +kernel
theorem ow_109 : gown 109 = 5 := by decide +kernel
theorem ow_11 : gown 11 = 1 := by decide +kernel
theorem ow_110 : gown 110 = 5 := by decide +kernel
theorem ow_111 : gown 111 = 5 := by decide +kernel
theorem ow_112 : gown 112 = 5 := by decide +kernel
theorem ow_113 : gown 113 = 5 := by decide +kernel
theorem ow_114 : gown 114 = 5 := by decide +kernel
theorem ow_115 : gown 115 = 5 := by decide +kernel
theorem ow_117 : gown 117 = 6 := by decide +kernel
theorem ow_118 : gown 118 = 6 := by decide +kernel
theorem ow_119 : gown 119 = 6 := by decide +kernel
theorem ow_12 : gown 12 = 1 := by decide +kernel
theorem ow_120 : gown 120 = 6 := by decide +kernel
theorem ow_121 : gown 121 = 6 := by decide +kernel
theorem ow_122 : gown 122 = 6 := by decide +kernel
theorem ow_123 : gown 123 = 6 := by decide +kernel
theorem ow_124 : gown 124 = 6 := by decide +kernel
theorem ow_125 : gown 125 = 6 := by decide +kernel
theorem ow_126 : gown 126 = 6 := by decide +kernel
theorem ow_127 : gown 127 = 6 := by decide +kernel
theorem ow_129 : gown 129 = 7 := by decide +kernel
theorem ow_13 : gown 13 = 1 := by decide +kernel
theorem ow_130 : gown 130 = 7 := by decide +kernel
theorem ow_131 : gown 131 = 7 := by decide +kernel
theorem ow_132 : gown 132 = 7 := by decide +kernel
theorem ow_133 : gown 133 = 7 := by decide +kernel
theorem ow_134 : gown 134 = 7 := by decide +kernel
theorem ow_135 : gown 135 = 7 := by decide +kernel
theorem ow_136 : gown 136 = 7 := by decide +kernel
theorem ow_137 : gown 137 = 7 := by decide +kernel
theorem ow_138 : gown 138 = 7 := by decide +kernel
theorem ow_139 : gown 139 = 7 := by decide +kernel
theorem ow_14 : gown 14 = 1 := by decide +kernel
theorem ow_140 : gown 140 = 7 := by decide +kernel
theorem ow_141 : gown 141 = 7 := by decide +kernel
theorem ow_142 : gown 142 = 7 := by decide +kernel
theorem ow_143 : gown 143 = 7 := by decide +kernel
theorem ow_144 : gown 144 = 7 := by decide +kernel
theorem ow_145 : gown 145 = 7 := by decide +kernel
theorem ow_146 : gown 146 = 7 := by decide +kernel
theorem ow_147 : gown 147 = 7 := by decide +kernel
theorem ow_148 : gown 148 = 7 := by decide +kernel
theorem ow_149 : gown 149 = 7 := by decide +kernel
theorem ow_15 : gown 15 = 1 := by decide +kernel
theorem ow_150 : gown 150 = 7 := by decide +kernel
theorem ow_151 : gown 151 = 7 := by decide +kernel
theorem ow_152 : gown 152 = 7 := by decide +kernel
theorem ow_153 : gown 153 = 7 := by decide +kernel
theorem ow_154 : gown 154 = 7 := by decide +kernel
theorem ow_155 : gown 155 = 7 := by decide +kernel
theorem ow_156 : gown 156 = 7 := by decide +kernel
theorem ow_158 : gown 158 = 8 := by decide +kernel
theorem ow_159 : gown 159 = 8 := by decide +kernel
theorem ow_16 : gown 16 = 1 := by decide +kernel
theorem ow_160 : gown 160 = 8 := by decide +kernel
theorem ow_161 : gown 161 = 8 := by decide +kernel
theorem ow_162 : gown 162 = 8 := by decide +kernel
theorem ow_163 : gown 163 = 8 := by decide +kernel
theorem ow_164 : gown 164 = 8 := by decide +kernel
theorem ow_165 : gown 165 = 8 := by decide +kernel
theorem ow_166 : gown 166 = 8 := by decide +kernel
theorem ow_167 : gown 167 = 8 := by decide +kernel
theorem ow_168 : gown 168 = 8 := by decide +kernel
theorem ow_169 : gown 169 = 8 := by decide +kernel
theorem ow_17 : gown 17 = 1 := by decide +kernel
theorem ow_170 : gown 170 = 8 := by decide +kernel
theorem ow_171 : gown 171 = 8 := by decide +kernel
theorem ow_172 : gown 172 = 8 := by decide +kernel
theorem ow_174 : gown 174 = 9 := by decide +kernel
theorem ow_175 : gown 175 = 9 := by decide +kernel
theorem ow_176 : gown 176 = 9 := by decide +kernel
theorem ow_177 : gown 177 = 9 := by decide +kernel
theorem ow_178 : gown 178 = 9 := by decide +kernel
theorem ow_179 : gown 179 = 9 := by decide +kernel
theorem ow_18 : gown 18 = 1 := by decide +kernel
theorem ow_181 : gown 181 = 10 := by decide +kernel
theorem ow_182 : gown 182 = 10 := by decide +kernel
theorem ow_183 : gown 183 = 10 := by decide +kernel
theorem ow_184 : gown 184 = 10 := by decide +kernel
theorem ow_185 : gown 185 = 10 := by decide +kernel
theorem ow_186 : gown 186 = 10 := by decide +kernel
theorem ow_187 : gown 187 = 10 := by decide +kernel
theorem ow_188 : gown 188 = 10 := by decide +kernel
theorem ow_189 : gown 189 = 10 := by decide +kernel
theorem ow_19 : gown 19 = 1 := by decide +kernel
theorem ow_190 : gown 190 = 10 := by decide +kernel
theorem ow_191 : gown 191 = 10 := by decide +kernel
theorem ow_192 : gown 192 = 10 := by decide +kernel
theorem ow_193 : gown 193 = 10 := by decide +kernel
theorem ow_194 : gown 194 = 10 := by decide +kernel
theorem ow_195 : gown 195 = 10 := by decide +kernel
theorem ow_197 : gown 197 = 11 := by decide +kernel
theorem ow_198 : gown 198 = 11 := by decide +kernel
theorem ow_199 : gown 199 = 11 := by decide +kernel
theorem ow_2 : gown 2 = 0 := by decide +kernel
theorem ow_20 : gown 20 = 1 := by decide +kernel
theorem ow_200 : gown 200 = 11 := by decide +kernel
theorem ow_201 : gown 201 = 11 := by decide +kernel
theorem ow_202 : gown 202 = 11 := by decide +kernel
theorem ow_203 : gown 203 = 11 := by decide +kernel
theorem ow_204 : gown 204 = 11 := by decide +kernel
theorem ow_205 : gown 205 = 11 := by decide +kernel
theorem ow_206 : gown 206 = 11 := by decide +kernel
theorem ow_207 : gown 207 = 11 := by decide +kernel
theorem ow_208 : gown 208 = 11 := by decide +kernel
theorem ow_209 : gown 209 = 11 := by decide +kernel
theorem ow_21 : gown 21 = 1 := by decide +kernel
theorem ow_210 : gown 210 = 11 := by decide +kernel
theorem ow_211 : gown 211 = 11 := by decide +kernel
theorem ow_213 : gown 213 = 11 := by decide +kernel
theorem ow_214 : gown 214 = 11 := by decide +kernel
theorem ow_215 : gown 215 = 11 := by decide +kernel
theorem ow_216 : gown 216 = 11 := by decide +kernel
theorem ow_217 : gown 217 = 11 := by decide +kernel
theorem ow_218 : gown 218 = 11 := by decide +kernel
theorem ow_219 : gown 219 = 11 := by decide +kernel
theorem ow_22 : gown 22 = 1 := by decide +kernel
theorem ow_221 : gown 221 = 11 := by decide +kernel
theorem ow_222 : gown 222 = 11 := by decide +kernel
theorem ow_223 : gown 223 = 11 := by decide +kernel
theorem ow_224 : gown 224 = 11 := by decide +kernel
theorem ow_225 : gown 225 = 11 := by decide +kernel
theorem ow_226 : gown 226 = 11 := by decide +kernel
theorem ow_227 : gown 227 = 11 := by decide +kernel
theorem ow_228 : gown 228 = 11 := by decide +kernel
theorem ow_229 : gown 229 = 11 := by decide +kernel
theorem ow_23 : gown 23 = 1 := by decide +kernel
theorem ow_230 : gown 230 = 11 := by decide +kernel
theorem ow_231 : gown 231 = 11 := by decide +kernel
theorem ow_232 : gown 232 = 11 := by decide +kernel
theorem ow_233 : gown 233 = 11 := by decide +kernel
theorem ow_234 : gown 234 = 11 := by decide +kernel
theorem ow_235 : gown 235 = 11 := by decide +kernel
theorem ow_236 : gown 236 = 11 := by decide +kernel
theorem ow_237 : gown 237 = 11 := by decide +kernel
theorem ow_238 : gown 238 = 11 := by decide +kernel
theorem ow_239 : gown 239 = 11 := by decide +kernel
theorem ow_24 : gown 24 = 1 := by decide +kernel
theorem ow_240 : gown 240 = 11 := by decide +kernel
theorem ow_241 : gown 241 = 12 := by decide +kernel
theorem ow_242 : gown 242 = 12 := by decide +kernel
theorem ow_243 : gown 243 = 12 := by decide +kernel
theorem ow_244 : gown 244 = 12 := by decide +kernel
theorem ow_245 : gown 245 = 12 := by decide +kernel
theorem ow_247 : gown 247 = 12 := by decide +kernel
theorem ow_249 : gown 249 = 12 := by decide +kernel
theorem ow_25 : gown 25 = 1 := by decide +kernel
theorem ow_250 : gown 250 = 12 := by decide +kernel
theorem ow_251 : gown 251 = 12 := by decide +kernel
theorem ow_252 : gown 252 = 12 := by decide +kernel
theorem ow_253 : gown 253 = 12 := by decide +kernel
theorem ow_254 : gown 254 = 12 := by decide +kernel
theorem ow_256 : gown 256 = 12 := by decide +kernel
theorem ow_257 : gown 257 = 12 := by decide +kernel
theorem ow_258 : gown 258 = 12 := by decide +kernel
theorem ow_259 : gown 259 = 12 := by decide +kernel
theorem ow_26 : gown 26 = 1 := by decide +kernel
theorem ow_260 : gown 260 = 12 := by decide +kernel
theorem ow_261 : gown 261 = 12 := by decide +kernel
theorem ow_262 : gown 262 = 12 := by decide +kernel
theorem ow_263 : gown 263 = 12 := by decide +kernel
theorem ow_264 : gown 264 = 12 := by decide +kernel
theorem ow_265 : gown 265 = 12 := by decide +kernel
theorem ow_267 : gown 267 = 12 := by decide +kernel
theorem ow_268 : gown 268 = 12 := by decide +kernel
theorem ow_269 : gown 269 = 12 := by decide +kernel
theorem ow_27 : gown 27 = 1 := by decide +kernel
theorem ow_270 : gown 270 = 12 := by decide +kernel
theorem ow_271 : gown 271 = 12 := by decide +kernel
theorem ow_272 : gown 272 = 12 := by decide +kernel
theorem ow_274 : gown 274 = 12 := by decide +kernel
theorem ow_275 : gown 275 = 12 := by decide +kernel
theorem ow_276 : gown 276 = 12 := by decide +kernel
theorem ow_277 : gown 277 = 12 := by decide +kernel
theorem ow_278 : gown 278 = 12 := by decide +kernel
theorem ow_279 : gown 279 = 12 := by decide +kernel
theorem ow_28 : gown 28 = 1 := by decide +kernel
theorem ow_280 : gown 280 = 12 := by decide +kernel
theorem ow_281 : gown 281 = 12 := by decide +kernel
theorem ow_282 : gown 282 = 12 := by decide +kernel
theorem ow_283 : gown 283 = 12 := by decide +kernel
theorem ow_284 : gown 284 = 12 := by decide +kernel
theorem ow_286 : gown 286 = 12 := by decide +kernel
theorem ow_287 : gown 287 = 12 := by decide +kernel
theorem ow_288 : gown 288 = 12 := by decide +kernel
theorem ow_289 : gown 289 = 12 := by decide +kernel
theorem ow_29 : gown 29 = 1 := by decide +kernel
theorem ow_290 : gown 290 = 12 := by decide +kernel
theorem ow_292 : gown 292 = 12 := by decide +kernel
theorem ow_293 : gown 293 = 12 := by decide +kernel
theorem ow_294 : gown 294 = 12 := by decide +kernel
theorem ow_295 : gown 295 = 12 := by decide +kernel
theorem ow_296 : gown 296 = 12 := by decide +kernel
theorem ow_297 : gown 297 = 12 := by decide +kernel
theorem ow_299 : gown 299 = 12 := by decide +kernel
theorem ow_3 : gown 3 = 0 := by decide +kernel
theorem ow_30 : gown 30 = 1 := by decide +kernel
theorem ow_300 : gown 300 = 12 := by decide +kernel
theorem ow_301 : gown 301 = 12 := by decide +kernel
theorem ow_302 : gown 302 = 12 := by decide +kernel
theorem ow_303 : gown 303 = 12 := by decide +kernel
theorem ow_304 : gown 304 = 12 := by decide +kernel
theorem ow_305 : gown 305 = 12 := by decide +kernel
theorem ow_306 : gown 306 = 12 := by decide +kernel
theorem ow_307 : gown 307 = 12 := by decide +kernel
theorem ow_308 : gown 308 = 12 := by decide +kernel
theorem ow_309 : gown 309 = 12 := by decide +kernel
theorem ow_31 : gown 31 = 1 := by decide +kernel
theorem ow_312 : gown 312 = 12 := by decide +kernel
theorem ow_315 : gown 315 = 12 := by decide +kernel
theorem ow_316 : gown 316 = 12 := by decide +kernel
theorem ow_317 : gown 317 = 12 := by decide +kernel
theorem ow_318 : gown 318 = 12 := by decide +kernel
theorem ow_319 : gown 319 = 12 := by decide +kernel
theorem ow_32 : gown 32 = 1 := by decide +kernel
theorem ow_320 : gown 320 = 12 := by decide +kernel
theorem ow_321 : gown 321 = 12 := by decide +kernel
theorem ow_322 : gown 322 = 12 := by decide +kernel
theorem ow_323 : gown 323 = 12 := by decide +kernel
theorem ow_324 : gown 324 = 12 := by decide +kernel
theorem ow_325 : gown 325 = 12 := by decide +kernel
theorem ow_326 : gown 326 = 12 := by decide +kernel
theorem ow_327 : gown 327 = 12 := by decide +kernel
theorem ow_328 : gown 328 = 12 := by decide +kernel
theorem ow_329 : gown 329 = 12 := by decide +kernel
theorem ow_33 : gown 33 = 1 := by decide +kernel
theorem ow_330 : gown 330 = 12 := by decide +kernel
theorem ow_331 : gown 331 = 12 := by decide +kernel
theorem ow_332 : gown 332 = 12 := by decide +kernel
theorem ow_333 : gown 333 = 12 := by decide +kernel
theorem ow_334 : gown 334 = 12 := by decide +kernel
theorem ow_335 : gown 335 = 12 := by decide +kernel
theorem ow_336 : gown 336 = 12 := by decide +kernel
theorem ow_337 : gown 337 = 12 := by decide +kernel
theorem ow_338 : gown 338 = 12 := by decide +kernel
theorem ow_339 : gown 339 = 12 := by decide +kernel
theorem ow_34 : gown 34 = 1 := by decide +kernel
theorem ow_340 : gown 340 = 12 := by decide +kernel
theorem ow_341 : gown 341 = 12 := by decide +kernel
theorem ow_342 : gown 342 = 12 := by decide +kernel
theorem ow_343 : gown 343 = 12 := by decide +kernel
theorem ow_344 : gown 344 = 12 := by decide +kernel
theorem ow_345 : gown 345 = 12 := by decide +kernel
theorem ow_346 : gown 346 = 12 := by decide +kernel
theorem ow_347 : gown 347 = 12 := by decide +kernel
theorem ow_348 : gown 348 = 12 := by decide +kernel
theorem ow_349 : gown 349 = 12 := by decide +kernel
theorem ow_35 : gown 35 = 1 := by decide +kernel
theorem ow_350 : gown 350 = 12 := by decide +kernel
theorem ow_351 : gown 351 = 12 := by decide +kernel
theorem ow_352 : gown 352 = 12 := by decide +kernel
theorem ow_353 : gown 353 = 12 := by decide +kernel
theorem ow_354 : gown 354 = 12 := by decide +kernel
theorem ow_355 : gown 355 = 12 := by decide +kernel
theorem ow_356 : gown 356 = 12 := by decide +kernel
theorem ow_357 : gown 357 = 12 := by decide +kernel
theorem ow_358 : gown 358 = 12 := by decide +kernel
theorem ow_359 : gown 359 = 12 := by decide +kernel
theorem ow_36 : gown 36 = 1 := by decide +kernel
theorem ow_360 : gown 360 = 12 := by decide +kernel
theorem ow_361 : gown 361 = 12 := by decide +kernel
theorem ow_364 : gown 364 = 13 := by decide +kernel
theorem ow_368 : gown 368 = 15 := by decide +kernel
theorem ow_37 : gown 37 = 1 := by decide +kernel
theorem ow_38 : gown 38 = 1 := by decide +kernel
theorem ow_39 : gown 39 = 1 := by decide +kernel
theorem ow_40 : gown 40 = 1 := by decide +kernel
theorem ow_41 : gown 41 = 1 := by decide +kernel
theorem ow_42 : gown 42 = 1 := by decide +kernel
theorem ow_43 : gown 43 = 1 := by decide +kernel
theorem ow_44 : gown 44 = 1 := by decide +kernel
theorem ow_45 : gown 45 = 1 := by decide +kernel
theorem ow_46 : gown 46 = 1 := by decide +kernel
theorem ow_47 : gown 47 = 1 := by decide +kernel
theorem ow_48 : gown 48 = 1 := by decide +kernel
theorem ow_49 : gown 49 = 1 := by decide +kernel
theorem ow_5 : gown 5 = 1 := by decide +kernel
theorem ow_50 : gown 50 = 1 := by decide +kernel
theorem ow_51 : gown 51 = 1 := by decide +kernel
theorem ow_52 : gown 52 = 1 := by decide +kernel
theorem ow_53 : gown 53 = 1 := by decide +kernel
theorem ow_54 : gown 54 = 1 := by decide +kernel
theorem ow_55 : gown 55 = 1 := by decide +kernel
theorem ow_56 : gown 56 = 1 := by decide +kernel
theorem ow_57 : gown 57 = 1 := by decide +kernel
theorem ow_58 : gown 58 = 1 := by decide +kernel
theorem ow_59 : gown 59 = 1 := by decide +kernel
theorem ow_6 : gown 6 = 1 := by decide +kernel
theorem ow_60 : gown 60 = 1 := by decide +kernel
theorem ow_61 : gown 61 = 1 := by decide +kernel
theorem ow_62 : gown 62 = 1 := by decide +kernel
theorem ow_64 : gown 64 = 2 := by decide +kernel
theorem ow_65 : gown 65 = 2 := by decide +kernel
theorem ow_66 : gown 66 = 2 := by decide +kernel
theorem ow_67 : gown 67 = 2 := by decide +kernel
theorem ow_68 : gown 68 = 2 := by decide +kernel
theorem ow_69 : gown 69 = 2 := by decide +kernel
theorem ow_7 : gown 7 = 1 := by decide +kernel
theorem ow_70 : gown 70 = 2 := by decide +kernel
theorem ow_71 : gown 71 = 2 := by decide +kernel
theorem ow_72 : gown 72 = 2 := by decide +kernel
theorem ow_73 : gown 73 = 2 := by decide +kernel
theorem ow_74 : gown 74 = 2 := by decide +kernel
theorem ow_75 : gown 75 = 2 := by decide +kernel
theorem ow_76 : gown 76 = 2 := by decide +kernel
theorem ow_77 : gown 77 = 2 := by decide +kernel
theorem ow_78 : gown 78 = 2 := by decide +kernel
theorem ow_8 : gown 8 = 1 := by decide +kernel
theorem ow_80 : gown 80 = 3 := by decide +kernel
theorem ow_81 : gown 81 = 3 := by decide +kernel
theorem ow_82 : gown 82 = 3 := by decide +kernel
theorem ow_83 : gown 83 = 3 := by decide +kernel
theorem ow_84 : gown 84 = 3 := by decide +kernel
theorem ow_85 : gown 85 = 3 := by decide +kernel
theorem ow_86 : gown 86 = 3 := by decide +kernel
theorem ow_87 : gown 87 = 3 := by decide +kernel
theorem ow_88 : gown 88 = 3 := by decide +kernel
theorem ow_89 : gown 89 = 3 := by decide +kernel
theorem ow_9 : gown 9 = 1 := by decide +kernel
theorem ow_90 : gown 90 = 3 := by decide +kernel
theorem ow_91 : gown 91 = 3 := by decide +kernel
theorem ow_92 : gown 92 = 3 := by decide +kernel
theorem ow_93 : gown 93 = 3 := by decide +kernel
theorem ow_94 : gown 94 = 3 := by decide +kernel
theorem ow_96 : gown 96 = 4 := by decide +kernel
theorem ow_97 : gown 97 = 4 := by decide +kernel
theorem ow_98 : gown 98 = 4 := by decide +kernel
theorem ow_99 : gown 99 = 4 := by decide +kernel
theorem pl_2_27 : (2 * 1000 + 27, 851) ∈ gPL := by decide +kernel
theorem pl_8_48 : (8 * 1000 + 48, 1062) ∈ gPL := by decide +kernel
theorem rt_1 : grt 1 = (some .int) := by decide +kernel
theorem rt_10 : grt 10 = none := by decide +kernel
theorem rt_100 : grt 100 = none := by decide +kernel
theorem rt_101 : grt 101 = none := by decide +kernel
theorem rt_102 : grt 102 = none := by decide +kernel
theorem rt_103 : grt 103 = (some .boolean) := by decide +kernel
theorem rt_104 : grt 104 = (some .boolean) := by decide +kernel
theorem rt_105 : grt 105 = none := by decide +kernel
theorem rt_106 : grt 106 = none := by decide +kernel
theorem rt_108 : grt 108 = (some .int) := by decide +kernel
theorem rt_109 : grt 109 = none := by decide +kernel
theorem rt_11 : grt 11 = none := by decide +kernel
theorem rt_110 : grt 110 = (some .boolean) := by decide +kernel
theorem rt_111 : grt 111 = none := by decide +kernel
theorem rt_112 : grt 112 = none := by decide +kernel
theorem rt_113 : grt 113 = none := by decide +kernel
theorem rt_114 : grt 114 = none := by decide +kernel
theorem rt_115 : grt 115 = (some .int) := by decide +kernel
theorem rt_117 : grt 117 = none := by decide +kernel
theorem rt_118 : grt 118 = (some .boolean) := by decide +kernel
theorem rt_119 : grt 119 = none := by decide +kernel
theorem rt_12 : grt 12 = (some .int) := by decide +kernel
theorem rt_120 : grt 120 = none := by decide +kernel
theorem rt_121 : grt 121 = none := by decide +kernel
theorem rt_122 : grt 122 = (some .int) := by decide +kernel
theorem rt_123 : grt 123 = (some .boolean) := by decide +kernel
theorem rt_124 : grt 124 = (some .int) := by decide +kernel
theorem rt_125 : grt 125 = none := by decide +kernel
theorem rt_126 : grt 126 = none := by decide +kernel
theorem rt_127 : grt 127 = none := by decide +kernel
theorem rt_129 : grt 129 = (some .boolean) := by decide +kernel
theorem rt_13 : grt 13 = (some .int) := by decide +kernel
theorem rt_130 : grt 130 = (some .boolean) := by decide +kernel
theorem rt_131 : grt 131 = none := by decide +kernel
theorem rt_132 : grt 132 = none := by decide +kernel
theorem rt_133 : grt 133 = none := by decide +kernel
theorem rt_134 : grt 134 = none := by decide +kernel
theorem rt_135 : grt 135 = none := by decide +kernel
theorem rt_136 : grt 136 = (some .int) := by decide +kernel
theorem rt_137 : grt 137 = (some .int) := by decide +kernel
theorem rt_138 : grt 138 = none := by decide +kernel
theorem rt_139 : grt 139 = none := by decide +kernel
theorem rt_14 : grt 14 = (some .boolean) := by decide +kernel
theorem rt_140 : grt 140 = none := by decide +kernel
theorem rt_141 : grt 141 = none := by decide +kernel
theorem rt_142 : grt 142 = none := by decide +kernel
theorem rt_143 : grt 143 = (some .boolean) := by decide +kernel
theorem rt_144 : grt 144 = (some .int) := by decide +kernel
theorem rt_145 : grt 145 = (some .int) := by decide +kernel
theorem rt_146 : grt 146 = (some .int) := by decide +kernel
theorem rt_147 : grt 147 = (some .int) := by decide +kernel
theorem rt_148 : grt 148 = (some .boolean) := by decide +kernel
theorem rt_149 : grt 149 = (some .boolean) := by decide +kernel
theorem rt_15 : grt 15 = (some .boolean) := by decide +kernel
theorem rt_150 : grt 150 = none := by decide +kernel
theorem rt_151 : grt 151 = (some .boolean) := by decide +kernel
theorem rt_152 : grt 152 = (some .boolean) := by decide +kernel
theorem rt_153 : grt 153 = none := by decide +kernel
theorem rt_154 : grt 154 = none := by decide +kernel
theorem rt_155 : grt 155 = (some .int) := by decide +kernel
theorem rt_156 : grt 156 = (some .int) := by decide +kernel
theorem rt_158 : grt 158 = (some .boolean) := by decide +kernel
theorem rt_159 : grt 159 = (some .boolean) := by decide +kernel
theorem rt_16 : grt 16 = none := by decide +kernel
theorem rt_160 : grt 160 = (some .boolean) := by decide +kernel
theorem rt_161 : grt 161 = (some .boolean) := by decide +kernel
theorem rt_162 : grt 162 = none := by decide +kernel
theorem rt_163 : grt 163 = none := by decide +kernel
theorem rt_164 : grt 164 = none := by decide +kernel
theorem rt_165 : grt 165 = (some .int) := by decide +kernel
theorem rt_166 : grt 166 = (some .int) := by decide +kernel
theorem rt_167 : grt 167 = (some .int) := by decide +kernel
theorem rt_168 : grt 168 = (some .int) := by decide +kernel
theorem rt_169 : grt 169 = none := by decide +kernel
theorem rt_17 : grt 17 = none := by decide +kernel
theorem rt_170 : grt 170 = none := by decide +kernel
theorem rt_171 : grt 171 = (some .int) := by decide +kernel
theorem rt_172 : grt 172 = (some .int) := by decide +kernel
theorem rt_174 : grt 174 = none := by decide +kernel
theorem rt_175 : grt 175 = (some .boolean) := by decide +kernel
theorem rt_176 : grt 176 = (some .boolean) := by decide +kernel
theorem rt_177 : grt 177 = none := by decide +kernel
theorem rt_178 : grt 178 = none := by decide +kernel
theorem rt_179 : grt 179 = none := by decide +kernel
theorem rt_18 : grt 18 = none := by decide +kernel
theorem rt_181 : grt 181 = (some .boolean) := by decide +kernel
theorem rt_182 : grt 182 = none := by decide +kernel
theorem rt_183 : grt 183 = (some .boolean) := by decide +kernel
theorem rt_184 : grt 184 = none := by decide +kernel
theorem rt_185 : grt 185 = (some .int) := by decide +kernel
theorem rt_186 : grt 186 = (some .boolean) := by decide +kernel
theorem rt_187 : grt 187 = (some .boolean) := by decide +kernel
theorem rt_188 : grt 188 = (some .boolean) := by decide +kernel
theorem rt_189 : grt 189 = (some .boolean) := by decide +kernel
theorem rt_19 : grt 19 = (some .boolean) := by decide +kernel
theorem rt_190 : grt 190 = none := by decide +kernel
theorem rt_191 : grt 191 = (some .boolean) := by decide +kernel
theorem rt_192 : grt 192 = (some .boolean) := by decide +kernel
theorem rt_193 : grt 193 = (some .boolean) := by decide +kernel
theorem rt_194 : grt 194 = none := by decide +kernel
theorem rt_195 : grt 195 = (some .int) := by decide +kernel
theorem rt_197 : grt 197 = (some .int) := by decide +kernel
theorem rt_198 : grt 198 = (some .int) := by decide +kernel
theorem rt_199 : grt 199 = (some .int) := by decide +kernel
theorem rt_2 : grt 2 = (some .long) := by decide +kernel
theorem rt_20 : grt 20 = (some .int) := by decide +kernel
theorem rt_200 : grt 200 = (some .int) := by decide +kernel
theorem rt_201 : grt 201 = (some .int) := by decide +kernel
theorem rt_202 : grt 202 = (some .int) := by decide +kernel
theorem rt_203 : grt 203 = (some .int) := by decide +kernel
theorem rt_204 : grt 204 = (some .int) := by decide +kernel
theorem rt_205 : grt 205 = (some .int) := by decide +kernel
theorem rt_206 : grt 206 = (some .int) := by decide +kernel
theorem rt_207 : grt 207 = (some .int) := by decide +kernel
theorem rt_208 : grt 208 = (some .int) := by decide +kernel
theorem rt_209 : grt 209 = (some .int) := by decide +kernel
theorem rt_21 : grt 21 = (some .int) := by decide +kernel
theorem rt_210 : grt 210 = (some .int) := by decide +kernel
theorem rt_211 : grt 211 = (some .int) := by decide +kernel
theorem rt_212 : grt 212 = (some .boolean) := by decide +kernel
theorem rt_213 : grt 213 = (some .boolean) := by decide +kernel
theorem rt_214 : (∃ n, grt 214 = some (.object n)) ∨ ∃ n, grt 214 = some (.array n) := Or.inl ⟨_, rfl⟩
theorem rt_215 : grt 215 = none := by decide +kernel
theorem rt_216 : grt 216 = none := by decide +kernel
theorem rt_217 : grt 217 = (some .int) := by decide +kernel
theorem rt_218 : grt 218 = (some .int) := by decide +kernel
theorem rt_219 : grt 219 = (some .boolean) := by decide +kernel
theorem rt_22 : grt 22 = (some .int) := by decide +kernel
theorem rt_220 : grt 220 = (some .boolean) := by decide +kernel
theorem rt_221 : grt 221 = (some .int) := by decide +kernel
theorem rt_222 : grt 222 = (some .int) := by decide +kernel
theorem rt_223 : grt 223 = (some .int) := by decide +kernel
theorem rt_224 : grt 224 = (some .boolean) := by decide +kernel
theorem rt_225 : grt 225 = (some .int) := by decide +kernel
theorem rt_226 : grt 226 = (some .int) := by decide +kernel
theorem rt_227 : grt 227 = (some .int) := by decide +kernel
theorem rt_228 : grt 228 = (some .int) := by decide +kernel
theorem rt_229 : grt 229 = (some .int) := by decide +kernel
theorem rt_23 : grt 23 = (some .int) := by decide +kernel
theorem rt_230 : grt 230 = (some .int) := by decide +kernel
theorem rt_231 : grt 231 = (some .int) := by decide +kernel
theorem rt_232 : grt 232 = (some .int) := by decide +kernel
theorem rt_233 : grt 233 = (some .int) := by decide +kernel
theorem rt_234 : grt 234 = (some .int) := by decide +kernel
theorem rt_235 : grt 235 = (some .int) := by decide +kernel
theorem rt_236 : grt 236 = (some .int) := by decide +kernel
theorem rt_237 : grt 237 = (some .int) := by decide +kernel
theorem rt_238 : grt 238 = (some .int) := by decide +kernel
theorem rt_239 : grt 239 = (some .int) := by decide +kernel
theorem rt_24 : grt 24 = (some .int) := by decide +kernel
theorem rt_240 : grt 240 = (some .int) := by decide +kernel
theorem rt_241 : grt 241 = (some .int) := by decide +kernel
theorem rt_242 : grt 242 = (some .int) := by decide +kernel
theorem rt_243 : grt 243 = (some .int) := by decide +kernel
theorem rt_244 : grt 244 = (some .int) := by decide +kernel
theorem rt_245 : grt 245 = (some .int) := by decide +kernel
theorem rt_246 : grt 246 = (some .int) := by decide +kernel
theorem rt_247 : grt 247 = (some .int) := by decide +kernel
theorem rt_248 : grt 248 = none := by decide +kernel
theorem rt_249 : grt 249 = (some .int) := by decide +kernel
theorem rt_25 : grt 25 = none := by decide +kernel
theorem rt_250 : grt 250 = (some .int) := by decide +kernel
theorem rt_251 : grt 251 = (some .int) := by decide +kernel
theorem rt_252 : grt 252 = (some .int) := by decide +kernel
theorem rt_253 : (∃ n, grt 253 = some (.object n)) ∨ ∃ n, grt 253 = some (.array n) := Or.inr ⟨_, rfl⟩
theorem rt_254 : grt 254 = (some .int) := by decide +kernel
theorem rt_255 : grt 255 = (some .boolean) := by decide +kernel
theorem rt_256 : grt 256 = none := by decide +kernel
theorem rt_257 : grt 257 = (some .int) := by decide +kernel
theorem rt_258 : grt 258 = (some .boolean) := by decide +kernel
theorem rt_259 : grt 259 = (some .int) := by decide +kernel
theorem rt_26 : grt 26 = (some .int) := by decide +kernel
theorem rt_260 : grt 260 = (some .int) := by decide +kernel
theorem rt_261 : grt 261 = (some .int) := by decide +kernel
theorem rt_262 : grt 262 = (some .int) := by decide +kernel
theorem rt_263 : grt 263 = (some .int) := by decide +kernel
theorem rt_264 : grt 264 = (some .int) := by decide +kernel
theorem rt_265 : grt 265 = none := by decide +kernel
theorem rt_266 : grt 266 = (some .int) := by decide +kernel
theorem rt_267 : grt 267 = none := by decide +kernel
theorem rt_268 : grt 268 = none := by decide +kernel
theorem rt_269 : grt 269 = none := by decide +kernel
theorem rt_27 : grt 27 = none := by decide +kernel
theorem rt_270 : grt 270 = none := by decide +kernel
theorem rt_271 : grt 271 = none := by decide +kernel
theorem rt_272 : grt 272 = none := by decide +kernel
theorem rt_273 : grt 273 = none := by decide +kernel
theorem rt_274 : grt 274 = none := by decide +kernel
theorem rt_275 : grt 275 = none := by decide +kernel
theorem rt_276 : grt 276 = none := by decide +kernel
theorem rt_277 : grt 277 = none := by decide +kernel
theorem rt_278 : grt 278 = none := by decide +kernel
theorem rt_279 : grt 279 = none := by decide +kernel
theorem rt_28 : grt 28 = none := by decide +kernel
theorem rt_280 : grt 280 = none := by decide +kernel
theorem rt_281 : grt 281 = none := by decide +kernel
theorem rt_282 : grt 282 = none := by decide +kernel
theorem rt_283 : grt 283 = none := by decide +kernel
theorem rt_284 : grt 284 = none := by decide +kernel
theorem rt_285 : grt 285 = (some .boolean) := by decide +kernel
theorem rt_286 : grt 286 = (some .int) := by decide +kernel
theorem rt_287 : grt 287 = (some .int) := by decide +kernel
theorem rt_288 : grt 288 = (some .boolean) := by decide +kernel
theorem rt_289 : grt 289 = none := by decide +kernel
theorem rt_29 : grt 29 = none := by decide +kernel
theorem rt_290 : grt 290 = (some .int) := by decide +kernel
theorem rt_291 : grt 291 = (some .boolean) := by decide +kernel
theorem rt_292 : grt 292 = (some .int) := by decide +kernel
theorem rt_293 : grt 293 = (some .boolean) := by decide +kernel
theorem rt_294 : grt 294 = (some .int) := by decide +kernel
theorem rt_295 : grt 295 = (some .int) := by decide +kernel
theorem rt_296 : grt 296 = (some .int) := by decide +kernel
theorem rt_297 : grt 297 = (some .int) := by decide +kernel
theorem rt_299 : grt 299 = none := by decide +kernel
theorem rt_3 : grt 3 = none := by decide +kernel
theorem rt_30 : grt 30 = none := by decide +kernel
theorem rt_300 : grt 300 = none := by decide +kernel
theorem rt_301 : grt 301 = (some .int) := by decide +kernel
theorem rt_302 : grt 302 = none := by decide +kernel
theorem rt_303 : grt 303 = none := by decide +kernel
theorem rt_304 : grt 304 = (some .int) := by decide +kernel
theorem rt_305 : grt 305 = none := by decide +kernel
theorem rt_306 : grt 306 = (some .boolean) := by decide +kernel
theorem rt_307 : grt 307 = none := by decide +kernel
theorem rt_308 : grt 308 = none := by decide +kernel
theorem rt_309 : grt 309 = (some .int) := by decide +kernel
theorem rt_31 : grt 31 = (some .int) := by decide +kernel
theorem rt_310 : grt 310 = (some .boolean) := by decide +kernel
theorem rt_311 : grt 311 = (some .boolean) := by decide +kernel
theorem rt_312 : grt 312 = (some .boolean) := by decide +kernel
theorem rt_313 : grt 313 = (some .int) := by decide +kernel
theorem rt_314 : grt 314 = (some .int) := by decide +kernel
theorem rt_315 : grt 315 = (some .boolean) := by decide +kernel
theorem rt_316 : grt 316 = (some .int) := by decide +kernel
theorem rt_317 : grt 317 = none := by decide +kernel
theorem rt_318 : grt 318 = none := by decide +kernel
theorem rt_319 : grt 319 = none := by decide +kernel
theorem rt_32 : grt 32 = none := by decide +kernel
theorem rt_320 : grt 320 = (some .boolean) := by decide +kernel
theorem rt_321 : grt 321 = (some .int) := by decide +kernel
theorem rt_322 : grt 322 = (some .int) := by decide +kernel
theorem rt_323 : grt 323 = (some .int) := by decide +kernel
theorem rt_324 : grt 324 = (some .int) := by decide +kernel
theorem rt_325 : grt 325 = none := by decide +kernel
theorem rt_326 : grt 326 = none := by decide +kernel
theorem rt_327 : grt 327 = none := by decide +kernel
theorem rt_328 : grt 328 = none := by decide +kernel
theorem rt_329 : grt 329 = none := by decide +kernel
theorem rt_33 : grt 33 = (some .int) := by decide +kernel
theorem rt_330 : grt 330 = none := by decide +kernel
theorem rt_331 : grt 331 = none := by decide +kernel
theorem rt_332 : grt 332 = none := by decide +kernel
theorem rt_333 : grt 333 = (some .int) := by decide +kernel
theorem rt_334 : grt 334 = none := by decide +kernel
theorem rt_335 : grt 335 = none := by decide +kernel
theorem rt_336 : grt 336 = none := by decide +kernel
theorem rt_337 : grt 337 = none := by decide +kernel
theorem rt_338 : grt 338 = none := by decide +kernel
theorem rt_339 : grt 339 = none := by decide +kernel
theorem rt_34 : grt 34 = (some .boolean) := by decide +kernel
theorem rt_340 : grt 340 = none := by decide +kernel
theorem rt_341 : grt 341 = (some .int) := by decide +kernel
theorem rt_342 : grt 342 = (some .boolean) := by decide +kernel
theorem rt_343 : grt 343 = (some .boolean) := by decide +kernel
theorem rt_344 : grt 344 = none := by decide +kernel
theorem rt_345 : grt 345 = none := by decide +kernel
theorem rt_346 : grt 346 = none := by decide +kernel
theorem rt_347 : grt 347 = none := by decide +kernel
theorem rt_348 : grt 348 = none := by decide +kernel
theorem rt_349 : grt 349 = (some .int) := by decide +kernel
theorem rt_35 : grt 35 = none := by decide +kernel
theorem rt_350 : grt 350 = (some .int) := by decide +kernel
theorem rt_351 : grt 351 = (some .int) := by decide +kernel
theorem rt_352 : grt 352 = (some .int) := by decide +kernel
theorem rt_353 : grt 353 = (some .int) := by decide +kernel
theorem rt_354 : grt 354 = (some .int) := by decide +kernel
theorem rt_355 : grt 355 = (some .int) := by decide +kernel
theorem rt_356 : grt 356 = (some .int) := by decide +kernel
theorem rt_357 : grt 357 = (some .int) := by decide +kernel
theorem rt_358 : grt 358 = (some .int) := by decide +kernel
theorem rt_359 : grt 359 = (some .int) := by decide +kernel
theorem rt_36 : grt 36 = none := by decide +kernel
theorem rt_360 : grt 360 = (some .int) := by decide +kernel
theorem rt_361 : grt 361 = (some .int) := by decide +kernel
theorem rt_363 : grt 363 = (some .int) := by decide +kernel
theorem rt_364 : grt 364 = (some .int) := by decide +kernel
theorem rt_367 : grt 367 = none := by decide +kernel
theorem rt_368 : grt 368 = none := by decide +kernel
theorem rt_37 : grt 37 = none := by decide +kernel
theorem rt_38 : grt 38 = none := by decide +kernel
theorem rt_39 : grt 39 = none := by decide +kernel
theorem rt_40 : grt 40 = (some .boolean) := by decide +kernel
theorem rt_41 : grt 41 = (some .int) := by decide +kernel
theorem rt_42 : grt 42 = none := by decide +kernel
theorem rt_43 : grt 43 = (some .int) := by decide +kernel
theorem rt_44 : grt 44 = (some .int) := by decide +kernel
theorem rt_45 : grt 45 = none := by decide +kernel
theorem rt_46 : grt 46 = none := by decide +kernel
theorem rt_47 : grt 47 = none := by decide +kernel
theorem rt_48 : grt 48 = none := by decide +kernel
theorem rt_49 : grt 49 = (some .boolean) := by decide +kernel
theorem rt_5 : grt 5 = (some .boolean) := by decide +kernel
theorem rt_50 : grt 50 = (some .int) := by decide +kernel
theorem rt_51 : grt 51 = none := by decide +kernel
theorem rt_52 : grt 52 = (some .int) := by decide +kernel
theorem rt_53 : grt 53 = (some .int) := by decide +kernel
theorem rt_54 : grt 54 = (some .boolean) := by decide +kernel
theorem rt_55 : grt 55 = (some .boolean) := by decide +kernel
theorem rt_56 : grt 56 = (some .int) := by decide +kernel
theorem rt_57 : grt 57 = (some .int) := by decide +kernel
theorem rt_58 : grt 58 = none := by decide +kernel
theorem rt_59 : grt 59 = none := by decide +kernel
theorem rt_6 : grt 6 = (some .int) := by decide +kernel
theorem rt_60 : grt 60 = none := by decide +kernel
theorem rt_61 : grt 61 = (some .int) := by decide +kernel
theorem rt_62 : grt 62 = none := by decide +kernel
theorem rt_64 : grt 64 = none := by decide +kernel
theorem rt_65 : grt 65 = none := by decide +kernel
theorem rt_66 : grt 66 = none := by decide +kernel
theorem rt_67 : grt 67 = none := by decide +kernel
theorem rt_68 : grt 68 = none := by decide +kernel
theorem rt_69 : grt 69 = none := by decide +kernel
theorem rt_7 : grt 7 = (some .boolean) := by decide +kernel
theorem rt_70 : grt 70 = none := by decide +kernel
theorem rt_71 : grt 71 = none := by decide +kernel
theorem rt_72 : grt 72 = none := by decide +kernel
theorem rt_73 : grt 73 = none := by decide +kernel
theorem rt_74 : grt 74 = none := by decide +kernel
theorem rt_75 : grt 75 = (some .int) := by decide +kernel
theorem rt_76 : grt 76 = (some .int) := by decide +kernel
theorem rt_77 : grt 77 = (some .int) := by decide +kernel
theorem rt_78 : grt 78 = (some .int) := by decide +kernel
theorem rt_8 : grt 8 = (some .boolean) := by decide +kernel
theorem rt_80 : grt 80 = (some .boolean) := by decide +kernel
theorem rt_81 : grt 81 = (some .int) := by decide +kernel
theorem rt_82 : grt 82 = (some .int) := by decide +kernel
theorem rt_83 : grt 83 = (some .int) := by decide +kernel
theorem rt_84 : grt 84 = none := by decide +kernel
theorem rt_85 : grt 85 = none := by decide +kernel
theorem rt_86 : grt 86 = (some .int) := by decide +kernel
theorem rt_87 : grt 87 = (some .int) := by decide +kernel
theorem rt_88 : grt 88 = none := by decide +kernel
theorem rt_89 : grt 89 = (some .boolean) := by decide +kernel
theorem rt_9 : grt 9 = (some .int) := by decide +kernel
theorem rt_90 : grt 90 = none := by decide +kernel
theorem rt_91 : grt 91 = none := by decide +kernel
theorem rt_92 : grt 92 = none := by decide +kernel
theorem rt_93 : grt 93 = none := by decide +kernel
theorem rt_94 : grt 94 = none := by decide +kernel
theorem rt_96 : grt 96 = (some .int) := by decide +kernel
theorem rt_97 : grt 97 = (some .int) := by decide +kernel
theorem rt_98 : grt 98 = (some .boolean) := by decide +kernel
theorem rt_99 : grt 99 = (some .boolean) := by decide +kernel
theorem sk_0 : SK0 0 = (0, 10) := by decide +kernel
theorem sk_1 : SK0 1 = (0, 1) := by decide +kernel
theorem sk_10 : SK0 10 = (0, 1) := by decide +kernel
theorem sk_101 : SK0 101 = (0, 0) := by decide +kernel
theorem sk_102 : SK0 102 = (0, 7) := by decide +kernel
theorem sk_108 : SK0 108 = (0, 7) := by decide +kernel
theorem sk_11 : SK0 11 = (2, gln 11) := by decide +kernel
theorem sk_114 : SK0 114 = (0, 7) := by decide +kernel
theorem sk_12 : SK0 12 = (0, 2) := by decide +kernel
theorem sk_120 : SK0 120 = (0, 1) := by decide +kernel
theorem sk_122 : SK0 122 = (0, 1) := by decide +kernel
theorem sk_124 : SK0 124 = (1, gln 124) := by decide +kernel
theorem sk_125 : SK0 125 = (1, gln 125) := by decide +kernel
theorem sk_126 : SK0 126 = (1, gln 126) := by decide +kernel
theorem sk_127 : SK0 127 = (0, 1) := by decide +kernel
theorem sk_128 : SK0 128 = (2, gln 128) := by decide +kernel
theorem sk_129 : SK0 129 = (0, 11) := by decide +kernel
theorem sk_13 : SK0 13 = (0, 1) := by decide +kernel
theorem sk_130 : SK0 130 = (1, gln 130) := by decide +kernel
theorem sk_131 : SK0 131 = (1, gln 131) := by decide +kernel
theorem sk_132 : SK0 132 = (1, gln 132) := by decide +kernel
theorem sk_133 : SK0 133 = (1, gln 133) := by decide +kernel
theorem sk_134 : SK0 134 = (3, gln 134) := by decide +kernel
theorem sk_135 : SK0 135 = (3, gln 135) := by decide +kernel
theorem sk_136 : SK0 136 = (1, gln 136) := by decide +kernel
theorem sk_137 : SK0 137 = (3, gln 137) := by decide +kernel
theorem sk_138 : SK0 138 = (1, gln 138) := by decide +kernel
theorem sk_139 : SK0 139 = (1, gln 139) := by decide +kernel
theorem sk_140 : SK0 140 = (1, gln 140) := by decide +kernel
theorem sk_141 : SK0 141 = (1, gln 141) := by decide +kernel
theorem sk_142 : SK0 142 = (3, gln 142) := by decide +kernel
theorem sk_143 : SK0 143 = (1, gln 143) := by decide +kernel
theorem sk_144 : SK0 144 = (1, gln 144) := by decide +kernel
theorem sk_145 : SK0 145 = (1, gln 145) := by decide +kernel
theorem sk_146 : SK0 146 = (1, gln 146) := by decide +kernel
theorem sk_147 : SK0 147 = (1, gln 147) := by decide +kernel
theorem sk_148 : SK0 148 = (1, gln 148) := by decide +kernel
theorem sk_149 : SK0 149 = (1, gln 149) := by decide +kernel
theorem sk_15 : SK0 15 = (0, 7) := by decide +kernel
theorem sk_150 : SK0 150 = (1, gln 150) := by decide +kernel
theorem sk_151 : SK0 151 = (1, gln 151) := by decide +kernel
theorem sk_152 : SK0 152 = (1, gln 152) := by decide +kernel
theorem sk_153 : SK0 153 = (1, gln 153) := by decide +kernel
theorem sk_154 : SK0 154 = (1, gln 154) := by decide +kernel
theorem sk_155 : SK0 155 = (1, gln 155) := by decide +kernel
theorem sk_156 : SK0 156 = (1, gln 156) := by decide +kernel
theorem sk_157 : SK0 157 = (1, gln 157) := by decide +kernel
theorem sk_158 : SK0 158 = (1, gln 158) := by decide +kernel
theorem sk_159 : SK0 159 = (1, gln 159) := by decide +kernel
theorem sk_160 : SK0 160 = (1, gln 160) := by decide +kernel
theorem sk_161 : SK0 161 = (1, gln 161) := by decide +kernel
theorem sk_162 : SK0 162 = (1, gln 162) := by decide +kernel
theorem sk_163 : SK0 163 = (1, gln 163) := by decide +kernel
theorem sk_164 : SK0 164 = (1, gln 164) := by decide +kernel
theorem sk_165 : SK0 165 = (1, gln 165) := by decide +kernel
theorem sk_166 : SK0 166 = (1, gln 166) := by decide +kernel
theorem sk_167 : SK0 167 = (1, gln 167) := by decide +kernel
theorem sk_168 : SK0 168 = (1, gln 168) := by decide +kernel
theorem sk_169 : SK0 169 = (1, gln 169) := by decide +kernel
theorem sk_170 : SK0 170 = (3, gln 170) := by decide +kernel
theorem sk_171 : SK0 171 = (1, gln 171) := by decide +kernel
theorem sk_172 : SK0 172 = (1, gln 172) := by decide +kernel
theorem sk_173 : SK0 173 = (1, gln 173) := by decide +kernel
theorem sk_174 : SK0 174 = (1, gln 174) := by decide +kernel
theorem sk_175 : SK0 175 = (1, gln 175) := by decide +kernel
theorem sk_176 : SK0 176 = (1, gln 176) := by decide +kernel
theorem sk_177 : SK0 177 = (1, gln 177) := by decide +kernel
theorem sk_178 : SK0 178 = (1, gln 178) := by decide +kernel
theorem sk_179 : SK0 179 = (1, gln 179) := by decide +kernel
theorem sk_180 : SK0 180 = (1, gln 180) := by decide +kernel
theorem sk_181 : SK0 181 = (1, gln 181) := by decide +kernel
theorem sk_182 : SK0 182 = (1, gln 182) := by decide +kernel
theorem sk_183 : SK0 183 = (3, gln 183) := by decide +kernel
theorem sk_184 : SK0 184 = (3, gln 184) := by decide +kernel
theorem sk_185 : SK0 185 = (1, gln 185) := by decide +kernel
theorem sk_186 : SK0 186 = (1, gln 186) := by decide +kernel
theorem sk_187 : SK0 187 = (1, gln 187) := by decide +kernel
theorem sk_188 : SK0 188 = (1, gln 188) := by decide +kernel
theorem sk_189 : SK0 189 = (1, gln 189) := by decide +kernel
theorem sk_190 : SK0 190 = (3, gln 190) := by decide +kernel
theorem sk_191 : SK0 191 = (3, gln 191) := by decide +kernel
theorem sk_192 : SK0 192 = (3, gln 192) := by decide +kernel
theorem sk_193 : SK0 193 = (1, gln 193) := by decide +kernel
theorem sk_194 : SK0 194 = (1, gln 194) := by decide +kernel
theorem sk_195 : SK0 195 = (1, gln 195) := by decide +kernel
theorem sk_196 : SK0 196 = (1, gln 196) := by decide +kernel
theorem sk_197 : SK0 197 = (1, gln 197) := by decide +kernel
theorem sk_198 : SK0 198 = (1, gln 198) := by decide +kernel
theorem sk_199 : SK0 199 = (1, gln 199) := by decide +kernel
theorem sk_200 : SK0 200 = (1, gln 200) := by decide +kernel
theorem sk_201 : SK0 201 = (1, gln 201) := by decide +kernel
theorem sk_202 : SK0 202 = (1, gln 202) := by decide +kernel
theorem sk_203 : SK0 203 = (3, gln 203) := by decide +kernel
theorem sk_204 : SK0 204 = (1, gln 204) := by decide +kernel
theorem sk_205 : SK0 205 = (1, gln 205) := by decide +kernel
theorem sk_206 : SK0 206 = (1, gln 206) := by decide +kernel
theorem sk_207 : SK0 207 = (1, gln 207) := by decide +kernel
theorem sk_208 : SK0 208 = (1, gln 208) := by decide +kernel
theorem sk_209 : SK0 209 = (1, gln 209) := by decide +kernel
theorem sk_21 : SK0 21 = (1, gln 21) := by decide +kernel
theorem sk_210 : SK0 210 = (1, gln 210) := by decide +kernel
theorem sk_211 : SK0 211 = (3, gln 211) := by decide +kernel
theorem sk_212 : SK0 212 = (1, gln 212) := by decide +kernel
theorem sk_213 : SK0 213 = (1, gln 213) := by decide +kernel
theorem sk_214 : SK0 214 = (1, gln 214) := by decide +kernel
theorem sk_215 : SK0 215 = (1, gln 215) := by decide +kernel
theorem sk_216 : SK0 216 = (1, gln 216) := by decide +kernel
theorem sk_217 : SK0 217 = (1, gln 217) := by decide +kernel
theorem sk_218 : SK0 218 = (3, gln 218) := by decide +kernel
theorem sk_219 : SK0 219 = (1, gln 219) := by decide +kernel
theorem sk_22 : SK0 22 = (1, gln 22) := by decide +kernel
theorem sk_220 : SK0 220 = (1, gln 220) := by decide +kernel
theorem sk_23 : SK0 23 = (1, gln 23) := by decide +kernel
theorem sk_24 : SK0 24 = (1, gln 24) := by decide +kernel
theorem sk_25 : SK0 25 = (1, gln 25) := by decide +kernel
theorem sk_26 : SK0 26 = (1, gln 26) := by decide +kernel
theorem sk_27 : SK0 27 = (2, gln 27) := by decide +kernel
theorem sk_28 : SK0 28 = (0, 6) := by decide +kernel
theorem sk_29 : SK0 29 = (0, 7) := by decide +kernel
theorem sk_3 : SK0 3 = (0, 1) := by decide +kernel
theorem sk_35 : SK0 35 = (0, 7) := by decide +kernel
theorem sk_41 : SK0 41 = (0, 1) := by decide +kernel
theorem sk_43 : SK0 43 = (0, 1) := by decide +kernel
theorem sk_45 : SK0 45 = (0, 1) := by decide +kernel
theorem sk_47 : SK0 47 = (0, 1) := by decide +kernel
theorem sk_49 : SK0 49 = (0, 3) := by decide +kernel
theorem sk_5 : SK0 5 = (0, 4) := by decide +kernel
theorem sk_50 : SK0 50 = (0, 1) := by decide +kernel
theorem sk_52 : SK0 52 = (0, 1) := by decide +kernel
theorem sk_54 : SK0 54 = (0, 1) := by decide +kernel
theorem sk_56 : SK0 56 = (1, gln 56) := by decide +kernel
theorem sk_57 : SK0 57 = (0, 5) := by decide +kernel
theorem sk_58 : SK0 58 = (5, gln 58) := by decide +kernel
theorem sk_7 : SK0 7 = (0, 4) := by decide +kernel
theorem sk_75 : SK0 75 = (0, 7) := by decide +kernel
theorem sk_81 : SK0 81 = (0, 7) := by decide +kernel
theorem sk_87 : SK0 87 = (0, 1) := by decide +kernel
theorem sk_89 : SK0 89 = (4, gln 89) := by decide +kernel
theorem sk_9 : SK0 9 = (0, 9) := by decide +kernel
theorem sk_94 : SK0 94 = (1, gln 94) := by decide +kernel
theorem sk_95 : SK0 95 = (1, gln 95) := by decide +kernel
theorem sk_96 : SK0 96 = (1, gln 96) := by decide +kernel
theorem sk_97 : SK0 97 = (0, 1) := by decide +kernel
theorem sk_99 : SK0 99 = (0, 1) := by decide +kernel
theorem sl_1_144 : (1 * 1000 + 144, 2, 1000) ∈ gSL := by decide +kernel
theorem sl_2_51 : (2 * 1000 + 51, 0, 810) ∈ gSL := by decide +kernel
theorem sl_3_137 : (3 * 1000 + 137, 1, 1265) ∈ gSL := by decide +kernel
theorem sr_0_0 : SR 0 0 = some 1 := by decide +kernel
theorem sr_0_1 : SR 0 1 = some 3 := by decide +kernel
theorem sr_0_2 : SR 0 2 = some 5 := by decide +kernel
theorem sr_0_3 : SR 0 3 = some 7 := by decide +kernel
theorem sr_0_4 : SR 0 4 = some 9 := by decide +kernel
theorem sr_0_5 : SR 0 5 = some 12 := by decide +kernel
theorem sr_0_6 : SR 0 6 = some 28 := by decide +kernel
theorem sr_0_7 : SR 0 7 = some 49 := by decide +kernel
theorem sr_0_8 : SR 0 8 = some 57 := by decide +kernel
theorem sr_0_9 : SR 0 9 = some 101 := by decide +kernel
theorem sr_101_0 : SR 101 0 = some 57 := by decide +kernel
theorem sr_101_1 : SR 101 1 = some 9 := by decide +kernel
theorem sr_101_10 : SR 101 10 = some 127 := by decide +kernel
theorem sr_101_2 : SR 101 2 = some 102 := by decide +kernel
theorem sr_101_3 : SR 101 3 = some 108 := by decide +kernel
theorem sr_101_4 : SR 101 4 = some 114 := by decide +kernel
theorem sr_101_5 : SR 101 5 = some 120 := by decide +kernel
theorem sr_101_6 : SR 101 6 = some 122 := by decide +kernel
theorem sr_101_7 : SR 101 7 = some 124 := by decide +kernel
theorem sr_101_8 : SR 101 8 = some 125 := by decide +kernel
theorem sr_101_9 : SR 101 9 = some 126 := by decide +kernel
theorem sr_10_0 : SR 10 0 = some 11 := by decide +kernel
theorem sr_127_0 : SR 127 0 = some 128 := by decide +kernel
theorem sr_129_0 : SR 129 0 = some 130 := by decide +kernel
theorem sr_129_100 : SR 129 100 = some 178 := by decide +kernel
theorem sr_129_101 : SR 129 101 = some 179 := by decide +kernel
theorem sr_129_102 : SR 129 102 = some 180 := by decide +kernel
theorem sr_129_103 : SR 129 103 = some 181 := by decide +kernel
theorem sr_129_105 : SR 129 105 = some 182 := by decide +kernel
theorem sr_129_108 : SR 129 108 = some 183 := by decide +kernel
theorem sr_129_109 : SR 129 109 = some 184 := by decide +kernel
theorem sr_129_110 : SR 129 110 = some 185 := by decide +kernel
theorem sr_129_111 : SR 129 111 = some 186 := by decide +kernel
theorem sr_129_112 : SR 129 112 = some 187 := by decide +kernel
theorem sr_129_113 : SR 129 113 = some 188 := by decide +kernel
theorem sr_129_114 : SR 129 114 = some 189 := by decide +kernel
theorem sr_129_115 : SR 129 115 = some 190 := by decide +kernel
theorem sr_129_116 : SR 129 116 = some 191 := by decide +kernel
theorem sr_129_117 : SR 129 117 = some 192 := by decide +kernel
theorem sr_129_118 : SR 129 118 = some 193 := by decide +kernel
theorem sr_129_119 : SR 129 119 = some 194 := by decide +kernel
theorem sr_129_12 : SR 129 12 = some 138 := by decide +kernel
theorem sr_129_120 : SR 129 120 = some 195 := by decide +kernel
theorem sr_129_121 : SR 129 121 = some 196 := by decide +kernel
theorem sr_129_122 : SR 129 122 = some 197 := by decide +kernel
theorem sr_129_123 : SR 129 123 = some 198 := by decide +kernel
theorem sr_129_124 : SR 129 124 = some 199 := by decide +kernel
theorem sr_129_125 : SR 129 125 = some 200 := by decide +kernel
theorem sr_129_126 : SR 129 126 = some 201 := by decide +kernel
theorem sr_129_127 : SR 129 127 = some 202 := by decide +kernel
theorem sr_129_129 : SR 129 129 = some 203 := by decide +kernel
theorem sr_129_131 : SR 129 131 = some 204 := by decide +kernel
theorem sr_129_132 : SR 129 132 = some 205 := by decide +kernel
theorem sr_129_133 : SR 129 133 = some 206 := by decide +kernel
theorem sr_129_134 : SR 129 134 = some 207 := by decide +kernel
theorem sr_129_135 : SR 129 135 = some 208 := by decide +kernel
theorem sr_129_136 : SR 129 136 = some 209 := by decide +kernel
theorem sr_129_137 : SR 129 137 = some 210 := by decide +kernel
theorem sr_129_138 : SR 129 138 = some 211 := by decide +kernel
theorem sr_129_140 : SR 129 140 = some 212 := by decide +kernel
theorem sr_129_142 : SR 129 142 = some 213 := by decide +kernel
theorem sr_129_143 : SR 129 143 = some 214 := by decide +kernel
theorem sr_129_148 : SR 129 148 = some 215 := by decide +kernel
theorem sr_129_149 : SR 129 149 = some 216 := by decide +kernel
theorem sr_129_15 : SR 129 15 = some 139 := by decide +kernel
theorem sr_129_150 : SR 129 150 = some 217 := by decide +kernel
theorem sr_129_151 : SR 129 151 = some 218 := by decide +kernel
theorem sr_129_152 : SR 129 152 = some 219 := by decide +kernel
theorem sr_129_153 : SR 129 153 = some 220 := by decide +kernel
theorem sr_129_2 : SR 129 2 = some 131 := by decide +kernel
theorem sr_129_26 : SR 129 26 = some 140 := by decide +kernel
theorem sr_129_3 : SR 129 3 = some 132 := by decide +kernel
theorem sr_129_39 : SR 129 39 = some 141 := by decide +kernel
theorem sr_129_4 : SR 129 4 = some 133 := by decide +kernel
theorem sr_129_40 : SR 129 40 = some 142 := by decide +kernel
theorem sr_129_42 : SR 129 42 = some 143 := by decide +kernel
theorem sr_129_44 : SR 129 44 = some 144 := by decide +kernel
theorem sr_129_45 : SR 129 45 = some 145 := by decide +kernel
theorem sr_129_46 : SR 129 46 = some 146 := by decide +kernel
theorem sr_129_47 : SR 129 47 = some 147 := by decide +kernel
theorem sr_129_5 : SR 129 5 = some 134 := by decide +kernel
theorem sr_129_50 : SR 129 50 = some 148 := by decide +kernel
theorem sr_129_51 : SR 129 51 = some 149 := by decide +kernel
theorem sr_129_52 : SR 129 52 = some 150 := by decide +kernel
theorem sr_129_53 : SR 129 53 = some 151 := by decide +kernel
theorem sr_129_54 : SR 129 54 = some 152 := by decide +kernel
theorem sr_129_55 : SR 129 55 = some 153 := by decide +kernel
theorem sr_129_56 : SR 129 56 = some 154 := by decide +kernel
theorem sr_129_57 : SR 129 57 = some 155 := by decide +kernel
theorem sr_129_59 : SR 129 59 = some 156 := by decide +kernel
theorem sr_129_6 : SR 129 6 = some 135 := by decide +kernel
theorem sr_129_66 : SR 129 66 = some 157 := by decide +kernel
theorem sr_129_7 : SR 129 7 = some 136 := by decide +kernel
theorem sr_129_73 : SR 129 73 = some 158 := by decide +kernel
theorem sr_129_74 : SR 129 74 = some 159 := by decide +kernel
theorem sr_129_75 : SR 129 75 = some 160 := by decide +kernel
theorem sr_129_76 : SR 129 76 = some 161 := by decide +kernel
theorem sr_129_78 : SR 129 78 = some 162 := by decide +kernel
theorem sr_129_79 : SR 129 79 = some 163 := by decide +kernel
theorem sr_129_8 : SR 129 8 = some 137 := by decide +kernel
theorem sr_129_82 : SR 129 82 = some 164 := by decide +kernel
theorem sr_129_84 : SR 129 84 = some 165 := by decide +kernel
theorem sr_129_85 : SR 129 85 = some 166 := by decide +kernel
theorem sr_129_88 : SR 129 88 = some 167 := by decide +kernel
theorem sr_129_89 : SR 129 89 = some 168 := by decide +kernel
theorem sr_129_91 : SR 129 91 = some 169 := by decide +kernel
theorem sr_129_92 : SR 129 92 = some 170 := by decide +kernel
theorem sr_129_93 : SR 129 93 = some 171 := by decide +kernel
theorem sr_129_94 : SR 129 94 = some 172 := by decide +kernel
theorem sr_129_95 : SR 129 95 = some 173 := by decide +kernel
theorem sr_129_96 : SR 129 96 = some 174 := by decide +kernel
theorem sr_129_97 : SR 129 97 = some 175 := by decide +kernel
theorem sr_129_98 : SR 129 98 = some 176 := by decide +kernel
theorem sr_129_99 : SR 129 99 = some 177 := by decide +kernel
theorem sr_12_0 : SR 12 0 = some 13 := by decide +kernel
theorem sr_12_1 : SR 12 1 = some 15 := by decide +kernel
theorem sr_12_2 : SR 12 2 = some 21 := by decide +kernel
theorem sr_12_3 : SR 12 3 = some 22 := by decide +kernel
theorem sr_12_4 : SR 12 4 = some 23 := by decide +kernel
theorem sr_12_5 : SR 12 5 = some 24 := by decide +kernel
theorem sr_12_6 : SR 12 6 = some 25 := by decide +kernel
theorem sr_12_7 : SR 12 7 = some 26 := by decide +kernel
theorem sr_28_0 : SR 28 0 = some 5 := by decide +kernel
theorem sr_28_1 : SR 28 1 = some 12 := by decide +kernel
theorem sr_28_2 : SR 28 2 = some 29 := by decide +kernel
theorem sr_28_3 : SR 28 3 = some 35 := by decide +kernel
theorem sr_28_4 : SR 28 4 = some 41 := by decide +kernel
theorem sr_28_5 : SR 28 5 = some 43 := by decide +kernel
theorem sr_28_6 : SR 28 6 = some 45 := by decide +kernel
theorem sr_28_7 : SR 28 7 = some 47 := by decide +kernel
theorem sr_49_0 : SR 49 0 = some 12 := by decide +kernel
theorem sr_49_1 : SR 49 1 = some 27 := by decide +kernel
theorem sr_49_2 : SR 49 2 = some 50 := by decide +kernel
theorem sr_49_3 : SR 49 3 = some 52 := by decide +kernel
theorem sr_49_4 : SR 49 4 = some 54 := by decide +kernel
theorem sr_49_5 : SR 49 5 = some 56 := by decide +kernel
theorem sr_57_0 : SR 57 0 = some 7 := by decide +kernel
theorem sr_57_1 : SR 57 1 = some 27 := by decide +kernel
theorem sr_57_10 : SR 57 10 = some 97 := by decide +kernel
theorem sr_57_11 : SR 57 11 = some 99 := by decide +kernel
theorem sr_57_2 : SR 57 2 = some 58 := by decide +kernel
theorem sr_57_3 : SR 57 3 = some 75 := by decide +kernel
theorem sr_57_4 : SR 57 4 = some 81 := by decide +kernel
theorem sr_57_5 : SR 57 5 = some 87 := by decide +kernel
theorem sr_57_6 : SR 57 6 = some 89 := by decide +kernel
theorem sr_57_7 : SR 57 7 = some 94 := by decide +kernel
theorem sr_57_8 : SR 57 8 = some 95 := by decide +kernel
theorem sr_57_9 : SR 57 9 = some 96 := by decide +kernel
theorem sr_9_0 : SR 9 0 = some 10 := by decide +kernel
theorem st_100_101 : gSite 100 101 := ⟨gML_all 101 (by decide) (by decide) (by decide), gcw_101, by decide +kernel, by decide +kernel⟩
theorem st_100_102 : gSite 100 102 := ⟨gML_all 102 (by decide) (by decide) (by decide), gcw_102, by decide +kernel, by decide +kernel⟩
theorem st_100_364 : gSite 100 364 := ⟨gML_all 364 (by decide) (by decide) (by decide), gcw_364, by decide +kernel, by decide +kernel⟩
theorem st_101_102 : gSite 101 102 := ⟨gML_all 102 (by decide) (by decide) (by decide), gcw_102, by decide +kernel, by decide +kernel⟩
theorem st_102_64 : gSite 102 64 := ⟨gML_all 64 (by decide) (by decide) (by decide), gcw_64, by decide +kernel, by decide +kernel⟩
theorem st_103_74 : gSite 103 74 := ⟨gML_all 74 (by decide) (by decide) (by decide), gcw_74, by decide +kernel, by decide +kernel⟩
theorem st_103_75 : gSite 103 75 := ⟨gML_all 75 (by decide) (by decide) (by decide), gcw_75, by decide +kernel, by decide +kernel⟩
theorem st_103_76 : gSite 103 76 := ⟨gML_all 76 (by decide) (by decide) (by decide), gcw_76, by decide +kernel, by decide +kernel⟩
theorem st_103_78 : gSite 103 78 := ⟨gML_all 78 (by decide) (by decide) (by decide), gcw_78, by decide +kernel, by decide +kernel⟩
theorem st_104_75 : gSite 104 75 := ⟨gML_all 75 (by decide) (by decide) (by decide), gcw_75, by decide +kernel, by decide +kernel⟩
theorem st_104_76 : gSite 104 76 := ⟨gML_all 76 (by decide) (by decide) (by decide), gcw_76, by decide +kernel, by decide +kernel⟩
theorem st_105_106 : gSite 105 106 := ⟨gML_all 106 (by decide) (by decide) (by decide), gcw_106, by decide +kernel, by decide +kernel⟩
theorem st_105_64 : gSite 105 64 := ⟨gML_all 64 (by decide) (by decide) (by decide), gcw_64, by decide +kernel, by decide +kernel⟩
theorem st_105_65 : gSite 105 65 := ⟨gML_all 65 (by decide) (by decide) (by decide), gcw_65, by decide +kernel, by decide +kernel⟩
theorem st_105_75 : gSite 105 75 := ⟨gML_all 75 (by decide) (by decide) (by decide), gcw_75, by decide +kernel, by decide +kernel⟩
theorem st_105_76 : gSite 105 76 := ⟨gML_all 76 (by decide) (by decide) (by decide), gcw_76, by decide +kernel, by decide +kernel⟩
theorem st_105_88 : gSite 105 88 := ⟨gML_all 88 (by decide) (by decide) (by decide), gcw_88, by decide +kernel, by decide +kernel⟩
theorem st_106_64 : gSite 106 64 := ⟨gML_all 64 (by decide) (by decide) (by decide), gcw_64, by decide +kernel, by decide +kernel⟩
theorem st_106_75 : gSite 106 75 := ⟨gML_all 75 (by decide) (by decide) (by decide), gcw_75, by decide +kernel, by decide +kernel⟩
theorem st_10_11 : gSite 10 11 := ⟨gML_all 11 (by decide) (by decide) (by decide), gcw_11, by decide +kernel, by decide +kernel⟩
theorem st_10_12 : gSite 10 12 := ⟨gML_all 12 (by decide) (by decide) (by decide), gcw_12, by decide +kernel, by decide +kernel⟩
theorem st_10_161 : gSite 10 161 := ⟨gML_all 161 (by decide) (by decide) (by decide), gcw_161, by decide +kernel, by decide +kernel⟩
theorem st_10_75 : gSite 10 75 := ⟨gML_all 75 (by decide) (by decide) (by decide), gcw_75, by decide +kernel, by decide +kernel⟩
theorem st_110_111 : gSite 110 111 := ⟨gML_all 111 (by decide) (by decide) (by decide), gcw_111, by decide +kernel, by decide +kernel⟩
theorem st_110_75 : gSite 110 75 := ⟨gML_all 75 (by decide) (by decide) (by decide), gcw_75, by decide +kernel, by decide +kernel⟩
theorem st_112_113 : gSite 112 113 := ⟨gML_all 113 (by decide) (by decide) (by decide), gcw_113, by decide +kernel, by decide +kernel⟩
theorem st_112_115 : gSite 112 115 := ⟨gML_all 115 (by decide) (by decide) (by decide), gcw_115, by decide +kernel, by decide +kernel⟩
theorem st_112_368 : gSite 112 368 := ⟨gML_all 368 (by decide) (by decide) (by decide), gcw_368, by decide +kernel, by decide +kernel⟩
theorem st_113_115 : gSite 113 115 := ⟨gML_all 115 (by decide) (by decide) (by decide), gcw_115, by decide +kernel, by decide +kernel⟩
theorem st_114_115 : gSite 114 115 := ⟨gML_all 115 (by decide) (by decide) (by decide), gcw_115, by decide +kernel, by decide +kernel⟩
theorem st_117_64 : gSite 117 64 := ⟨gML_all 64 (by decide) (by decide) (by decide), gcw_64, by decide +kernel, by decide +kernel⟩
theorem st_117_65 : gSite 117 65 := ⟨gML_all 65 (by decide) (by decide) (by decide), gcw_65, by decide +kernel, by decide +kernel⟩
theorem st_117_66 : gSite 117 66 := ⟨gML_all 66 (by decide) (by decide) (by decide), gcw_66, by decide +kernel, by decide +kernel⟩
theorem st_117_67 : gSite 117 67 := ⟨gML_all 67 (by decide) (by decide) (by decide), gcw_67, by decide +kernel, by decide +kernel⟩
theorem st_119_161 : gSite 119 161 := ⟨gML_all 161 (by decide) (by decide) (by decide), gcw_161, by decide +kernel, by decide +kernel⟩
theorem st_119_178 : gSite 119 178 := ⟨gML_all 178 (by decide) (by decide) (by decide), gcw_178, by decide +kernel, by decide +kernel⟩
theorem st_119_64 : gSite 119 64 := ⟨gML_all 64 (by decide) (by decide) (by decide), gcw_64, by decide +kernel, by decide +kernel⟩
theorem st_119_72 : gSite 119 72 := ⟨gML_all 72 (by decide) (by decide) (by decide), gcw_72, by decide +kernel, by decide +kernel⟩
theorem st_119_73 : gSite 119 73 := ⟨gML_all 73 (by decide) (by decide) (by decide), gcw_73, by decide +kernel, by decide +kernel⟩
theorem st_119_76 : gSite 119 76 := ⟨gML_all 76 (by decide) (by decide) (by decide), gcw_76, by decide +kernel, by decide +kernel⟩
theorem st_11_117 : gSite 11 117 := ⟨gML_all 117 (by decide) (by decide) (by decide), gcw_117, by decide +kernel, by decide +kernel⟩
theorem st_11_119 : gSite 11 119 := ⟨gML_all 119 (by decide) (by decide) (by decide), gcw_119, by decide +kernel, by decide +kernel⟩
theorem st_11_65 : gSite 11 65 := ⟨gML_all 65 (by decide) (by decide) (by decide), gcw_65, by decide +kernel, by decide +kernel⟩
theorem st_11_75 : gSite 11 75 := ⟨gML_all 75 (by decide) (by decide) (by decide), gcw_75, by decide +kernel, by decide +kernel⟩
theorem st_120_161 : gSite 120 161 := ⟨gML_all 161 (by decide) (by decide) (by decide), gcw_161, by decide +kernel, by decide +kernel⟩
theorem st_120_164 : gSite 120 164 := ⟨gML_all 164 (by decide) (by decide) (by decide), gcw_164, by decide +kernel, by decide +kernel⟩
theorem st_120_167 : gSite 120 167 := ⟨gML_all 167 (by decide) (by decide) (by decide), gcw_167, by decide +kernel, by decide +kernel⟩
theorem st_120_64 : gSite 120 64 := ⟨gML_all 64 (by decide) (by decide) (by decide), gcw_64, by decide +kernel, by decide +kernel⟩
theorem st_121_110 : gSite 121 110 := ⟨gML_all 110 (by decide) (by decide) (by decide), gcw_110, by decide +kernel, by decide +kernel⟩
theorem st_121_122 : gSite 121 122 := ⟨gML_all 122 (by decide) (by decide) (by decide), gcw_122, by decide +kernel, by decide +kernel⟩
theorem st_121_125 : gSite 121 125 := ⟨gML_all 125 (by decide) (by decide) (by decide), gcw_125, by decide +kernel, by decide +kernel⟩
theorem st_121_64 : gSite 121 64 := ⟨gML_all 64 (by decide) (by decide) (by decide), gcw_64, by decide +kernel, by decide +kernel⟩
theorem st_121_65 : gSite 121 65 := ⟨gML_all 65 (by decide) (by decide) (by decide), gcw_65, by decide +kernel, by decide +kernel⟩
theorem st_121_66 : gSite 121 66 := ⟨gML_all 66 (by decide) (by decide) (by decide), gcw_66, by decide +kernel, by decide +kernel⟩
theorem st_121_67 : gSite 121 67 := ⟨gML_all 67 (by decide) (by decide) (by decide), gcw_67, by decide +kernel, by decide +kernel⟩
theorem st_121_69 : gSite 121 69 := ⟨gML_all 69 (by decide) (by decide) (by decide), gcw_69, by decide +kernel, by decide +kernel⟩
theorem st_121_71 : gSite 121 71 := ⟨gML_all 71 (by decide) (by decide) (by decide), gcw_71, by decide +kernel, by decide +kernel⟩
theorem st_121_72 : gSite 121 72 := ⟨gML_all 72 (by decide) (by decide) (by decide), gcw_72, by decide +kernel, by decide +kernel⟩
theorem st_121_73 : gSite 121 73 := ⟨gML_all 73 (by decide) (by decide) (by decide), gcw_73, by decide +kernel, by decide +kernel⟩
theorem st_121_74 : gSite 121 74 := ⟨gML_all 74 (by decide) (by decide) (by decide), gcw_74, by decide +kernel, by decide +kernel⟩
theorem st_122_123 : gSite 122 123 := ⟨gML_all 123 (by decide) (by decide) (by decide), gcw_123, by decide +kernel, by decide +kernel⟩
theorem st_123_124 : gSite 123 124 := ⟨gML_all 124 (by decide) (by decide) (by decide), gcw_124, by decide +kernel, by decide +kernel⟩
theorem st_125_124 : gSite 125 124 := ⟨gML_all 124 (by decide) (by decide) (by decide), gcw_124, by decide +kernel, by decide +kernel⟩
theorem st_125_126 : gSite 125 126 := ⟨gML_all 126 (by decide) (by decide) (by decide), gcw_126, by decide +kernel, by decide +kernel⟩
theorem st_125_70 : gSite 125 70 := ⟨gML_all 70 (by decide) (by decide) (by decide), gcw_70, by decide +kernel, by decide +kernel⟩
theorem st_126_127 : gSite 126 127 := ⟨gML_all 127 (by decide) (by decide) (by decide), gcw_127, by decide +kernel, by decide +kernel⟩
theorem st_126_162 : gSite 126 162 := ⟨gML_all 162 (by decide) (by decide) (by decide), gcw_162, by decide +kernel, by decide +kernel⟩
theorem st_126_164 : gSite 126 164 := ⟨gML_all 164 (by decide) (by decide) (by decide), gcw_164, by decide +kernel, by decide +kernel⟩
theorem st_127_64 : gSite 127 64 := ⟨gML_all 64 (by decide) (by decide) (by decide), gcw_64, by decide +kernel, by decide +kernel⟩
theorem st_127_66 : gSite 127 66 := ⟨gML_all 66 (by decide) (by decide) (by decide), gcw_66, by decide +kernel, by decide +kernel⟩
theorem st_127_69 : gSite 127 69 := ⟨gML_all 69 (by decide) (by decide) (by decide), gcw_69, by decide +kernel, by decide +kernel⟩
theorem st_12_13 : gSite 12 13 := ⟨gML_all 13 (by decide) (by decide) (by decide), gcw_13, by decide +kernel, by decide +kernel⟩
theorem st_12_14 : gSite 12 14 := ⟨gML_all 14 (by decide) (by decide) (by decide), gcw_14, by decide +kernel, by decide +kernel⟩
theorem st_12_15 : gSite 12 15 := ⟨gML_all 15 (by decide) (by decide) (by decide), gcw_15, by decide +kernel, by decide +kernel⟩
theorem st_12_159 : gSite 12 159 := ⟨gML_all 159 (by decide) (by decide) (by decide), gcw_159, by decide +kernel, by decide +kernel⟩
theorem st_12_75 : gSite 12 75 := ⟨gML_all 75 (by decide) (by decide) (by decide), gcw_75, by decide +kernel, by decide +kernel⟩
theorem st_12_76 : gSite 12 76 := ⟨gML_all 76 (by decide) (by decide) (by decide), gcw_76, by decide +kernel, by decide +kernel⟩
theorem st_12_78 : gSite 12 78 := ⟨gML_all 78 (by decide) (by decide) (by decide), gcw_78, by decide +kernel, by decide +kernel⟩
theorem st_130_159 : gSite 130 159 := ⟨gML_all 159 (by decide) (by decide) (by decide), gcw_159, by decide +kernel, by decide +kernel⟩
theorem st_131_161 : gSite 131 161 := ⟨gML_all 161 (by decide) (by decide) (by decide), gcw_161, by decide +kernel, by decide +kernel⟩
theorem st_132_134 : gSite 132 134 := ⟨gML_all 134 (by decide) (by decide) (by decide), gcw_134, by decide +kernel, by decide +kernel⟩
theorem st_133_134 : gSite 133 134 := ⟨gML_all 134 (by decide) (by decide) (by decide), gcw_134, by decide +kernel, by decide +kernel⟩
theorem st_134_110 : gSite 134 110 := ⟨gML_all 110 (by decide) (by decide) (by decide), gcw_110, by decide +kernel, by decide +kernel⟩
theorem st_134_3 : gSite 134 3 := ⟨gML_all 3 (by decide) (by decide) (by decide), gcw_3, by decide +kernel, by decide +kernel⟩
theorem st_134_64 : gSite 134 64 := ⟨gML_all 64 (by decide) (by decide) (by decide), gcw_64, by decide +kernel, by decide +kernel⟩
theorem st_134_65 : gSite 134 65 := ⟨gML_all 65 (by decide) (by decide) (by decide), gcw_65, by decide +kernel, by decide +kernel⟩
theorem st_134_66 : gSite 134 66 := ⟨gML_all 66 (by decide) (by decide) (by decide), gcw_66, by decide +kernel, by decide +kernel⟩
theorem st_134_71 : gSite 134 71 := ⟨gML_all 71 (by decide) (by decide) (by decide), gcw_71, by decide +kernel, by decide +kernel⟩
theorem st_134_72 : gSite 134 72 := ⟨gML_all 72 (by decide) (by decide) (by decide), gcw_72, by decide +kernel, by decide +kernel⟩
theorem st_135_134 : gSite 135 134 := ⟨gML_all 134 (by decide) (by decide) (by decide), gcw_134, by decide +kernel, by decide +kernel⟩
theorem st_135_136 : gSite 135 136 := ⟨gML_all 136 (by decide) (by decide) (by decide), gcw_136, by decide +kernel, by decide +kernel⟩
theorem st_135_137 : gSite 135 137 := ⟨gML_all 137 (by decide) (by decide) (by decide), gcw_137, by decide +kernel, by decide +kernel⟩
theorem st_135_164 : gSite 135 164 := ⟨gML_all 164 (by decide) (by decide) (by decide), gcw_164, by decide +kernel, by decide +kernel⟩
theorem st_135_170 : gSite 135 170 := ⟨gML_all 170 (by decide) (by decide) (by decide), gcw_170, by decide +kernel, by decide +kernel⟩
theorem st_136_168 : gSite 136 168 := ⟨gML_all 168 (by decide) (by decide) (by decide), gcw_168, by decide +kernel, by decide +kernel⟩
theorem st_137_161 : gSite 137 161 := ⟨gML_all 161 (by decide) (by decide) (by decide), gcw_161, by decide +kernel, by decide +kernel⟩
theorem st_137_162 : gSite 137 162 := ⟨gML_all 162 (by decide) (by decide) (by decide), gcw_162, by decide +kernel, by decide +kernel⟩
theorem st_137_164 : gSite 137 164 := ⟨gML_all 164 (by decide) (by decide) (by decide), gcw_164, by decide +kernel, by decide +kernel⟩
theorem st_137_167 : gSite 137 167 := ⟨gML_all 167 (by decide) (by decide) (by decide), gcw_167, by decide +kernel, by decide +kernel⟩
theorem st_137_84 : gSite 137 84 := ⟨gML_all 84 (by decide) (by decide) (by decide), gcw_84, by decide +kernel, by decide +kernel⟩
theorem st_138_170 : gSite 138 170 := ⟨gML_all 170 (by decide) (by decide) (by decide), gcw_170, by decide +kernel, by decide +kernel⟩
theorem st_139_162 : gSite 139 162 := ⟨gML_all 162 (by decide) (by decide) (by decide), gcw_162, by decide +kernel, by decide +kernel⟩
theorem st_139_167 : gSite 139 167 := ⟨gML_all 167 (by decide) (by decide) (by decide), gcw_167, by decide +kernel, by decide +kernel⟩
theorem st_139_85 : gSite 139 85 := ⟨gML_all 85 (by decide) (by decide) (by decide), gcw_85, by decide +kernel, by decide +kernel⟩
theorem st_13_75 : gSite 13 75 := ⟨gML_all 75 (by decide) (by decide) (by decide), gcw_75, by decide +kernel, by decide +kernel⟩
theorem st_140_163 : gSite 140 163 := ⟨gML_all 163 (by decide) (by decide) (by decide), gcw_163, by decide +kernel, by decide +kernel⟩
theorem st_140_167 : gSite 140 167 := ⟨gML_all 167 (by decide) (by decide) (by decide), gcw_167, by decide +kernel, by decide +kernel⟩
theorem st_140_85 : gSite 140 85 := ⟨gML_all 85 (by decide) (by decide) (by decide), gcw_85, by decide +kernel, by decide +kernel⟩
theorem st_141_140 : gSite 141 140 := ⟨gML_all 140 (by decide) (by decide) (by decide), gcw_140, by decide +kernel, by decide +kernel⟩
theorem st_143_141 : gSite 143 141 := ⟨gML_all 141 (by decide) (by decide) (by decide), gcw_141, by decide +kernel, by decide +kernel⟩
theorem st_143_144 : gSite 143 144 := ⟨gML_all 144 (by decide) (by decide) (by decide), gcw_144, by decide +kernel, by decide +kernel⟩
theorem st_144_145 : gSite 144 145 := ⟨gML_all 145 (by decide) (by decide) (by decide), gcw_145, by decide +kernel, by decide +kernel⟩
theorem st_144_146 : gSite 144 146 := ⟨gML_all 146 (by decide) (by decide) (by decide), gcw_146, by decide +kernel, by decide +kernel⟩
theorem st_144_147 : gSite 144 147 := ⟨gML_all 147 (by decide) (by decide) (by decide), gcw_147, by decide +kernel, by decide +kernel⟩
theorem st_145_139 : gSite 145 139 := ⟨gML_all 139 (by decide) (by decide) (by decide), gcw_139, by decide +kernel, by decide +kernel⟩
theorem st_146_139 : gSite 146 139 := ⟨gML_all 139 (by decide) (by decide) (by decide), gcw_139, by decide +kernel, by decide +kernel⟩
theorem st_147_138 : gSite 147 138 := ⟨gML_all 138 (by decide) (by decide) (by decide), gcw_138, by decide +kernel, by decide +kernel⟩
theorem st_147_139 : gSite 147 139 := ⟨gML_all 139 (by decide) (by decide) (by decide), gcw_139, by decide +kernel, by decide +kernel⟩
theorem st_149_133 : gSite 149 133 := ⟨gML_all 133 (by decide) (by decide) (by decide), gcw_133, by decide +kernel, by decide +kernel⟩
theorem st_149_138 : gSite 149 138 := ⟨gML_all 138 (by decide) (by decide) (by decide), gcw_138, by decide +kernel, by decide +kernel⟩
theorem st_149_150 : gSite 149 150 := ⟨gML_all 150 (by decide) (by decide) (by decide), gcw_150, by decide +kernel, by decide +kernel⟩
theorem st_14_75 : gSite 14 75 := ⟨gML_all 75 (by decide) (by decide) (by decide), gcw_75, by decide +kernel, by decide +kernel⟩
theorem st_150_141 : gSite 150 141 := ⟨gML_all 141 (by decide) (by decide) (by decide), gcw_141, by decide +kernel, by decide +kernel⟩
theorem st_150_142 : gSite 150 142 := ⟨gML_all 142 (by decide) (by decide) (by decide), gcw_142, by decide +kernel, by decide +kernel⟩
theorem st_152_141 : gSite 152 141 := ⟨gML_all 141 (by decide) (by decide) (by decide), gcw_141, by decide +kernel, by decide +kernel⟩
theorem st_152_153 : gSite 152 153 := ⟨gML_all 153 (by decide) (by decide) (by decide), gcw_153, by decide +kernel, by decide +kernel⟩
theorem st_153_133 : gSite 153 133 := ⟨gML_all 133 (by decide) (by decide) (by decide), gcw_133, by decide +kernel, by decide +kernel⟩
theorem st_153_140 : gSite 153 140 := ⟨gML_all 140 (by decide) (by decide) (by decide), gcw_140, by decide +kernel, by decide +kernel⟩
theorem st_153_64 : gSite 153 64 := ⟨gML_all 64 (by decide) (by decide) (by decide), gcw_64, by decide +kernel, by decide +kernel⟩
theorem st_153_65 : gSite 153 65 := ⟨gML_all 65 (by decide) (by decide) (by decide), gcw_65, by decide +kernel, by decide +kernel⟩
theorem st_153_66 : gSite 153 66 := ⟨gML_all 66 (by decide) (by decide) (by decide), gcw_66, by decide +kernel, by decide +kernel⟩
theorem st_155_156 : gSite 155 156 := ⟨gML_all 156 (by decide) (by decide) (by decide), gcw_156, by decide +kernel, by decide +kernel⟩
theorem st_156_168 : gSite 156 168 := ⟨gML_all 168 (by decide) (by decide) (by decide), gcw_168, by decide +kernel, by decide +kernel⟩
theorem st_15_75 : gSite 15 75 := ⟨gML_all 75 (by decide) (by decide) (by decide), gcw_75, by decide +kernel, by decide +kernel⟩
theorem st_15_76 : gSite 15 76 := ⟨gML_all 76 (by decide) (by decide) (by decide), gcw_76, by decide +kernel, by decide +kernel⟩
theorem st_161_160 : gSite 161 160 := ⟨gML_all 160 (by decide) (by decide) (by decide), gcw_160, by decide +kernel, by decide +kernel⟩
theorem st_162_158 : gSite 162 158 := ⟨gML_all 158 (by decide) (by decide) (by decide), gcw_158, by decide +kernel, by decide +kernel⟩
theorem st_164_158 : gSite 164 158 := ⟨gML_all 158 (by decide) (by decide) (by decide), gcw_158, by decide +kernel, by decide +kernel⟩
theorem st_164_64 : gSite 164 64 := ⟨gML_all 64 (by decide) (by decide) (by decide), gcw_64, by decide +kernel, by decide +kernel⟩
theorem st_164_70 : gSite 164 70 := ⟨gML_all 70 (by decide) (by decide) (by decide), gcw_70, by decide +kernel, by decide +kernel⟩
theorem st_166_158 : gSite 166 158 := ⟨gML_all 158 (by decide) (by decide) (by decide), gcw_158, by decide +kernel, by decide +kernel⟩
theorem st_167_158 : gSite 167 158 := ⟨gML_all 158 (by decide) (by decide) (by decide), gcw_158, by decide +kernel, by decide +kernel⟩
theorem st_168_158 : gSite 168 158 := ⟨gML_all 158 (by decide) (by decide) (by decide), gcw_158, by decide +kernel, by decide +kernel⟩
theorem st_169_158 : gSite 169 158 := ⟨gML_all 158 (by decide) (by decide) (by decide), gcw_158, by decide +kernel, by decide +kernel⟩
theorem st_16_10 : gSite 16 10 := ⟨gML_all 10 (by decide) (by decide) (by decide), gcw_10, by decide +kernel, by decide +kernel⟩
theorem st_16_11 : gSite 16 11 := ⟨gML_all 11 (by decide) (by decide) (by decide), gcw_11, by decide +kernel, by decide +kernel⟩
theorem st_16_118 : gSite 16 118 := ⟨gML_all 118 (by decide) (by decide) (by decide), gcw_118, by decide +kernel, by decide +kernel⟩
theorem st_16_119 : gSite 16 119 := ⟨gML_all 119 (by decide) (by decide) (by decide), gcw_119, by decide +kernel, by decide +kernel⟩
theorem st_16_162 : gSite 16 162 := ⟨gML_all 162 (by decide) (by decide) (by decide), gcw_162, by decide +kernel, by decide +kernel⟩
theorem st_16_164 : gSite 16 164 := ⟨gML_all 164 (by decide) (by decide) (by decide), gcw_164, by decide +kernel, by decide +kernel⟩
theorem st_16_167 : gSite 16 167 := ⟨gML_all 167 (by decide) (by decide) (by decide), gcw_167, by decide +kernel, by decide +kernel⟩
theorem st_16_17 : gSite 16 17 := ⟨gML_all 17 (by decide) (by decide) (by decide), gcw_17, by decide +kernel, by decide +kernel⟩
theorem st_16_18 : gSite 16 18 := ⟨gML_all 18 (by decide) (by decide) (by decide), gcw_18, by decide +kernel, by decide +kernel⟩
theorem st_16_19 : gSite 16 19 := ⟨gML_all 19 (by decide) (by decide) (by decide), gcw_19, by decide +kernel, by decide +kernel⟩
theorem st_16_22 : gSite 16 22 := ⟨gML_all 22 (by decide) (by decide) (by decide), gcw_22, by decide +kernel, by decide +kernel⟩
theorem st_16_24 : gSite 16 24 := ⟨gML_all 24 (by decide) (by decide) (by decide), gcw_24, by decide +kernel, by decide +kernel⟩
theorem st_16_25 : gSite 16 25 := ⟨gML_all 25 (by decide) (by decide) (by decide), gcw_25, by decide +kernel, by decide +kernel⟩
theorem st_16_40 : gSite 16 40 := ⟨gML_all 40 (by decide) (by decide) (by decide), gcw_40, by decide +kernel, by decide +kernel⟩
theorem st_16_75 : gSite 16 75 := ⟨gML_all 75 (by decide) (by decide) (by decide), gcw_75, by decide +kernel, by decide +kernel⟩
theorem st_170_158 : gSite 170 158 := ⟨gML_all 158 (by decide) (by decide) (by decide), gcw_158, by decide +kernel, by decide +kernel⟩
theorem st_172_171 : gSite 172 171 := ⟨gML_all 171 (by decide) (by decide) (by decide), gcw_171, by decide +kernel, by decide +kernel⟩
theorem st_174_163 : gSite 174 163 := ⟨gML_all 163 (by decide) (by decide) (by decide), gcw_163, by decide +kernel, by decide +kernel⟩
theorem st_176_175 : gSite 176 175 := ⟨gML_all 175 (by decide) (by decide) (by decide), gcw_175, by decide +kernel, by decide +kernel⟩
theorem st_177_175 : gSite 177 175 := ⟨gML_all 175 (by decide) (by decide) (by decide), gcw_175, by decide +kernel, by decide +kernel⟩
theorem st_178_160 : gSite 178 160 := ⟨gML_all 160 (by decide) (by decide) (by decide), gcw_160, by decide +kernel, by decide +kernel⟩
theorem st_178_161 : gSite 178 161 := ⟨gML_all 161 (by decide) (by decide) (by decide), gcw_161, by decide +kernel, by decide +kernel⟩
theorem st_178_162 : gSite 178 162 := ⟨gML_all 162 (by decide) (by decide) (by decide), gcw_162, by decide +kernel, by decide +kernel⟩
theorem st_178_175 : gSite 178 175 := ⟨gML_all 175 (by decide) (by decide) (by decide), gcw_175, by decide +kernel, by decide +kernel⟩
theorem st_179_162 : gSite 179 162 := ⟨gML_all 162 (by decide) (by decide) (by decide), gcw_162, by decide +kernel, by decide +kernel⟩
theorem st_179_167 : gSite 179 167 := ⟨gML_all 167 (by decide) (by decide) (by decide), gcw_167, by decide +kernel, by decide +kernel⟩
theorem st_17_11 : gSite 17 11 := ⟨gML_all 11 (by decide) (by decide) (by decide), gcw_11, by decide +kernel, by decide +kernel⟩
theorem st_17_75 : gSite 17 75 := ⟨gML_all 75 (by decide) (by decide) (by decide), gcw_75, by decide +kernel, by decide +kernel⟩
theorem st_181_182 : gSite 181 182 := ⟨gML_all 182 (by decide) (by decide) (by decide), gcw_182, by decide +kernel, by decide +kernel⟩
theorem st_181_183 : gSite 181 183 := ⟨gML_all 183 (by decide) (by decide) (by decide), gcw_183, by decide +kernel, by decide +kernel⟩
theorem st_182_364 : gSite 182 364 := ⟨gML_all 364 (by decide) (by decide) (by decide), gcw_364, by decide +kernel, by decide +kernel⟩
theorem st_183_2 : gSite 183 2 := ⟨gML_all 2 (by decide) (by decide) (by decide), gcw_2, by decide +kernel, by decide +kernel⟩
theorem st_183_68 : gSite 183 68 := ⟨gML_all 68 (by decide) (by decide) (by decide), gcw_68, by decide +kernel, by decide +kernel⟩
theorem st_184_64 : gSite 184 64 := ⟨gML_all 64 (by decide) (by decide) (by decide), gcw_64, by decide +kernel, by decide +kernel⟩
theorem st_185_75 : gSite 185 75 := ⟨gML_all 75 (by decide) (by decide) (by decide), gcw_75, by decide +kernel, by decide +kernel⟩
theorem st_185_76 : gSite 185 76 := ⟨gML_all 76 (by decide) (by decide) (by decide), gcw_76, by decide +kernel, by decide +kernel⟩
theorem st_186_187 : gSite 186 187 := ⟨gML_all 187 (by decide) (by decide) (by decide), gcw_187, by decide +kernel, by decide +kernel⟩
theorem st_186_190 : gSite 186 190 := ⟨gML_all 190 (by decide) (by decide) (by decide), gcw_190, by decide +kernel, by decide +kernel⟩
theorem st_186_191 : gSite 186 191 := ⟨gML_all 191 (by decide) (by decide) (by decide), gcw_191, by decide +kernel, by decide +kernel⟩
theorem st_186_192 : gSite 186 192 := ⟨gML_all 192 (by decide) (by decide) (by decide), gcw_192, by decide +kernel, by decide +kernel⟩
theorem st_186_75 : gSite 186 75 := ⟨gML_all 75 (by decide) (by decide) (by decide), gcw_75, by decide +kernel, by decide +kernel⟩
theorem st_187_188 : gSite 187 188 := ⟨gML_all 188 (by decide) (by decide) (by decide), gcw_188, by decide +kernel, by decide +kernel⟩
theorem st_187_189 : gSite 187 189 := ⟨gML_all 189 (by decide) (by decide) (by decide), gcw_189, by decide +kernel, by decide +kernel⟩
theorem st_187_75 : gSite 187 75 := ⟨gML_all 75 (by decide) (by decide) (by decide), gcw_75, by decide +kernel, by decide +kernel⟩
theorem st_187_76 : gSite 187 76 := ⟨gML_all 76 (by decide) (by decide) (by decide), gcw_76, by decide +kernel, by decide +kernel⟩
theorem st_187_78 : gSite 187 78 := ⟨gML_all 78 (by decide) (by decide) (by decide), gcw_78, by decide +kernel, by decide +kernel⟩
theorem st_188_75 : gSite 188 75 := ⟨gML_all 75 (by decide) (by decide) (by decide), gcw_75, by decide +kernel, by decide +kernel⟩
theorem st_189_76 : gSite 189 76 := ⟨gML_all 76 (by decide) (by decide) (by decide), gcw_76, by decide +kernel, by decide +kernel⟩
theorem st_18_11 : gSite 18 11 := ⟨gML_all 11 (by decide) (by decide) (by decide), gcw_11, by decide +kernel, by decide +kernel⟩
theorem st_190_188 : gSite 190 188 := ⟨gML_all 188 (by decide) (by decide) (by decide), gcw_188, by decide +kernel, by decide +kernel⟩
theorem st_190_75 : gSite 190 75 := ⟨gML_all 75 (by decide) (by decide) (by decide), gcw_75, by decide +kernel, by decide +kernel⟩
theorem st_192_193 : gSite 192 193 := ⟨gML_all 193 (by decide) (by decide) (by decide), gcw_193, by decide +kernel, by decide +kernel⟩
theorem st_194_64 : gSite 194 64 := ⟨gML_all 64 (by decide) (by decide) (by decide), gcw_64, by decide +kernel, by decide +kernel⟩
theorem st_194_70 : gSite 194 70 := ⟨gML_all 70 (by decide) (by decide) (by decide), gcw_70, by decide +kernel, by decide +kernel⟩
theorem st_197_65 : gSite 197 65 := ⟨gML_all 65 (by decide) (by decide) (by decide), gcw_65, by decide +kernel, by decide +kernel⟩
theorem st_198_75 : gSite 198 75 := ⟨gML_all 75 (by decide) (by decide) (by decide), gcw_75, by decide +kernel, by decide +kernel⟩
theorem st_199_64 : gSite 199 64 := ⟨gML_all 64 (by decide) (by decide) (by decide), gcw_64, by decide +kernel, by decide +kernel⟩
theorem st_19_20 : gSite 19 20 := ⟨gML_all 20 (by decide) (by decide) (by decide), gcw_20, by decide +kernel, by decide +kernel⟩
theorem st_19_76 : gSite 19 76 := ⟨gML_all 76 (by decide) (by decide) (by decide), gcw_76, by decide +kernel, by decide +kernel⟩
theorem st_200_78 : gSite 200 78 := ⟨gML_all 78 (by decide) (by decide) (by decide), gcw_78, by decide +kernel, by decide +kernel⟩
theorem st_201_202 : gSite 201 202 := ⟨gML_all 202 (by decide) (by decide) (by decide), gcw_202, by decide +kernel, by decide +kernel⟩
theorem st_201_203 : gSite 201 203 := ⟨gML_all 203 (by decide) (by decide) (by decide), gcw_203, by decide +kernel, by decide +kernel⟩
theorem st_202_204 : gSite 202 204 := ⟨gML_all 204 (by decide) (by decide) (by decide), gcw_204, by decide +kernel, by decide +kernel⟩
theorem st_202_3 : gSite 202 3 := ⟨gML_all 3 (by decide) (by decide) (by decide), gcw_3, by decide +kernel, by decide +kernel⟩
theorem st_202_64 : gSite 202 64 := ⟨gML_all 64 (by decide) (by decide) (by decide), gcw_64, by decide +kernel, by decide +kernel⟩
theorem st_202_71 : gSite 202 71 := ⟨gML_all 71 (by decide) (by decide) (by decide), gcw_71, by decide +kernel, by decide +kernel⟩
theorem st_203_2 : gSite 203 2 := ⟨gML_all 2 (by decide) (by decide) (by decide), gcw_2, by decide +kernel, by decide +kernel⟩
theorem st_203_204 : gSite 203 204 := ⟨gML_all 204 (by decide) (by decide) (by decide), gcw_204, by decide +kernel, by decide +kernel⟩
theorem st_203_64 : gSite 203 64 := ⟨gML_all 64 (by decide) (by decide) (by decide), gcw_64, by decide +kernel, by decide +kernel⟩
theorem st_203_68 : gSite 203 68 := ⟨gML_all 68 (by decide) (by decide) (by decide), gcw_68, by decide +kernel, by decide +kernel⟩
theorem st_203_77 : gSite 203 77 := ⟨gML_all 77 (by decide) (by decide) (by decide), gcw_77, by decide +kernel, by decide +kernel⟩
theorem st_204_64 : gSite 204 64 := ⟨gML_all 64 (by decide) (by decide) (by decide), gcw_64, by decide +kernel, by decide +kernel⟩
theorem st_205_212 : gSite 205 212 := ⟨gML_all 212 (by decide) (by decide) (by decide), gcw_212, by decide +kernel, by decide +kernel⟩
theorem st_205_214 : gSite 205 214 := ⟨gML_all 214 (by decide) (by decide) (by decide), gcw_214, by decide +kernel, by decide +kernel⟩
theorem st_206_108 : gSite 206 108 := ⟨gML_all 108 (by decide) (by decide) (by decide), gcw_108, by decide +kernel, by decide +kernel⟩
theorem st_206_213 : gSite 206 213 := ⟨gML_all 213 (by decide) (by decide) (by decide), gcw_213, by decide +kernel, by decide +kernel⟩
theorem st_206_214 : gSite 206 214 := ⟨gML_all 214 (by decide) (by decide) (by decide), gcw_214, by decide +kernel, by decide +kernel⟩
theorem st_207_108 : gSite 207 108 := ⟨gML_all 108 (by decide) (by decide) (by decide), gcw_108, by decide +kernel, by decide +kernel⟩
theorem st_207_112 : gSite 207 112 := ⟨gML_all 112 (by decide) (by decide) (by decide), gcw_112, by decide +kernel, by decide +kernel⟩
theorem st_207_181 : gSite 207 181 := ⟨gML_all 181 (by decide) (by decide) (by decide), gcw_181, by decide +kernel, by decide +kernel⟩
theorem st_207_212 : gSite 207 212 := ⟨gML_all 212 (by decide) (by decide) (by decide), gcw_212, by decide +kernel, by decide +kernel⟩
theorem st_207_214 : gSite 207 214 := ⟨gML_all 214 (by decide) (by decide) (by decide), gcw_214, by decide +kernel, by decide +kernel⟩
theorem st_207_215 : gSite 207 215 := ⟨gML_all 215 (by decide) (by decide) (by decide), gcw_215, by decide +kernel, by decide +kernel⟩
theorem st_207_216 : gSite 207 216 := ⟨gML_all 216 (by decide) (by decide) (by decide), gcw_216, by decide +kernel, by decide +kernel⟩
theorem st_207_98 : gSite 207 98 := ⟨gML_all 98 (by decide) (by decide) (by decide), gcw_98, by decide +kernel, by decide +kernel⟩
theorem st_208_108 : gSite 208 108 := ⟨gML_all 108 (by decide) (by decide) (by decide), gcw_108, by decide +kernel, by decide +kernel⟩
theorem st_208_109 : gSite 208 109 := ⟨gML_all 109 (by decide) (by decide) (by decide), gcw_109, by decide +kernel, by decide +kernel⟩
theorem st_208_213 : gSite 208 213 := ⟨gML_all 213 (by decide) (by decide) (by decide), gcw_213, by decide +kernel, by decide +kernel⟩
theorem st_208_214 : gSite 208 214 := ⟨gML_all 214 (by decide) (by decide) (by decide), gcw_214, by decide +kernel, by decide +kernel⟩
theorem st_209_114 : gSite 209 114 := ⟨gML_all 114 (by decide) (by decide) (by decide), gcw_114, by decide +kernel, by decide +kernel⟩
theorem st_209_213 : gSite 209 213 := ⟨gML_all 213 (by decide) (by decide) (by decide), gcw_213, by decide +kernel, by decide +kernel⟩
theorem st_209_214 : gSite 209 214 := ⟨gML_all 214 (by decide) (by decide) (by decide), gcw_214, by decide +kernel, by decide +kernel⟩
theorem st_20_75 : gSite 20 75 := ⟨gML_all 75 (by decide) (by decide) (by decide), gcw_75, by decide +kernel, by decide +kernel⟩
theorem st_210_113 : gSite 210 113 := ⟨gML_all 113 (by decide) (by decide) (by decide), gcw_113, by decide +kernel, by decide +kernel⟩
theorem st_210_212 : gSite 210 212 := ⟨gML_all 212 (by decide) (by decide) (by decide), gcw_212, by decide +kernel, by decide +kernel⟩
theorem st_210_214 : gSite 210 214 := ⟨gML_all 214 (by decide) (by decide) (by decide), gcw_214, by decide +kernel, by decide +kernel⟩
theorem st_211_110 : gSite 211 110 := ⟨gML_all 110 (by decide) (by decide) (by decide), gcw_110, by decide +kernel, by decide +kernel⟩
theorem st_211_212 : gSite 211 212 := ⟨gML_all 212 (by decide) (by decide) (by decide), gcw_212, by decide +kernel, by decide +kernel⟩
theorem st_211_214 : gSite 211 214 := ⟨gML_all 214 (by decide) (by decide) (by decide), gcw_214, by decide +kernel, by decide +kernel⟩
theorem st_211_64 : gSite 211 64 := ⟨gML_all 64 (by decide) (by decide) (by decide), gcw_64, by decide +kernel, by decide +kernel⟩
theorem st_213_212 : gSite 213 212 := ⟨gML_all 212 (by decide) (by decide) (by decide), gcw_212, by decide +kernel, by decide +kernel⟩
theorem st_213_214 : gSite 213 214 := ⟨gML_all 214 (by decide) (by decide) (by decide), gcw_214, by decide +kernel, by decide +kernel⟩
theorem st_215_10 : gSite 215 10 := ⟨gML_all 10 (by decide) (by decide) (by decide), gcw_10, by decide +kernel, by decide +kernel⟩
theorem st_215_184 : gSite 215 184 := ⟨gML_all 184 (by decide) (by decide) (by decide), gcw_184, by decide +kernel, by decide +kernel⟩
theorem st_215_185 : gSite 215 185 := ⟨gML_all 185 (by decide) (by decide) (by decide), gcw_185, by decide +kernel, by decide +kernel⟩
theorem st_215_186 : gSite 215 186 := ⟨gML_all 186 (by decide) (by decide) (by decide), gcw_186, by decide +kernel, by decide +kernel⟩
theorem st_215_194 : gSite 215 194 := ⟨gML_all 194 (by decide) (by decide) (by decide), gcw_194, by decide +kernel, by decide +kernel⟩
theorem st_215_5 : gSite 215 5 := ⟨gML_all 5 (by decide) (by decide) (by decide), gcw_5, by decide +kernel, by decide +kernel⟩
theorem st_216_103 : gSite 216 103 := ⟨gML_all 103 (by decide) (by decide) (by decide), gcw_103, by decide +kernel, by decide +kernel⟩
theorem st_216_104 : gSite 216 104 := ⟨gML_all 104 (by decide) (by decide) (by decide), gcw_104, by decide +kernel, by decide +kernel⟩
theorem st_216_105 : gSite 216 105 := ⟨gML_all 105 (by decide) (by decide) (by decide), gcw_105, by decide +kernel, by decide +kernel⟩
theorem st_216_135 : gSite 216 135 := ⟨gML_all 135 (by decide) (by decide) (by decide), gcw_135, by decide +kernel, by decide +kernel⟩
theorem st_216_143 : gSite 216 143 := ⟨gML_all 143 (by decide) (by decide) (by decide), gcw_143, by decide +kernel, by decide +kernel⟩
theorem st_217_204 : gSite 217 204 := ⟨gML_all 204 (by decide) (by decide) (by decide), gcw_204, by decide +kernel, by decide +kernel⟩
theorem st_217_219 : gSite 217 219 := ⟨gML_all 219 (by decide) (by decide) (by decide), gcw_219, by decide +kernel, by decide +kernel⟩
theorem st_217_64 : gSite 217 64 := ⟨gML_all 64 (by decide) (by decide) (by decide), gcw_64, by decide +kernel, by decide +kernel⟩
theorem st_217_71 : gSite 217 71 := ⟨gML_all 71 (by decide) (by decide) (by decide), gcw_71, by decide +kernel, by decide +kernel⟩
theorem st_217_86 : gSite 217 86 := ⟨gML_all 86 (by decide) (by decide) (by decide), gcw_86, by decide +kernel, by decide +kernel⟩
theorem st_218_129 : gSite 218 129 := ⟨gML_all 129 (by decide) (by decide) (by decide), gcw_129, by decide +kernel, by decide +kernel⟩
theorem st_218_130 : gSite 218 130 := ⟨gML_all 130 (by decide) (by decide) (by decide), gcw_130, by decide +kernel, by decide +kernel⟩
theorem st_218_131 : gSite 218 131 := ⟨gML_all 131 (by decide) (by decide) (by decide), gcw_131, by decide +kernel, by decide +kernel⟩
theorem st_218_132 : gSite 218 132 := ⟨gML_all 132 (by decide) (by decide) (by decide), gcw_132, by decide +kernel, by decide +kernel⟩
theorem st_218_135 : gSite 218 135 := ⟨gML_all 135 (by decide) (by decide) (by decide), gcw_135, by decide +kernel, by decide +kernel⟩
theorem st_218_204 : gSite 218 204 := ⟨gML_all 204 (by decide) (by decide) (by decide), gcw_204, by decide +kernel, by decide +kernel⟩
theorem st_218_219 : gSite 218 219 := ⟨gML_all 219 (by decide) (by decide) (by decide), gcw_219, by decide +kernel, by decide +kernel⟩
theorem st_218_64 : gSite 218 64 := ⟨gML_all 64 (by decide) (by decide) (by decide), gcw_64, by decide +kernel, by decide +kernel⟩
theorem st_218_86 : gSite 218 86 := ⟨gML_all 86 (by decide) (by decide) (by decide), gcw_86, by decide +kernel, by decide +kernel⟩
theorem st_219_220 : gSite 219 220 := ⟨gML_all 220 (by decide) (by decide) (by decide), gcw_220, by decide +kernel, by decide +kernel⟩
theorem st_21_76 : gSite 21 76 := ⟨gML_all 76 (by decide) (by decide) (by decide), gcw_76, by decide +kernel, by decide +kernel⟩
theorem st_222_80 : gSite 222 80 := ⟨gML_all 80 (by decide) (by decide) (by decide), gcw_80, by decide +kernel, by decide +kernel⟩
theorem st_222_81 : gSite 222 81 := ⟨gML_all 81 (by decide) (by decide) (by decide), gcw_81, by decide +kernel, by decide +kernel⟩
theorem st_222_82 : gSite 222 82 := ⟨gML_all 82 (by decide) (by decide) (by decide), gcw_82, by decide +kernel, by decide +kernel⟩
theorem st_222_83 : gSite 222 83 := ⟨gML_all 83 (by decide) (by decide) (by decide), gcw_83, by decide +kernel, by decide +kernel⟩
theorem st_223_135 : gSite 223 135 := ⟨gML_all 135 (by decide) (by decide) (by decide), gcw_135, by decide +kernel, by decide +kernel⟩
theorem st_223_151 : gSite 223 151 := ⟨gML_all 151 (by decide) (by decide) (by decide), gcw_151, by decide +kernel, by decide +kernel⟩
theorem st_223_152 : gSite 223 152 := ⟨gML_all 152 (by decide) (by decide) (by decide), gcw_152, by decide +kernel, by decide +kernel⟩
theorem st_223_154 : gSite 223 154 := ⟨gML_all 154 (by decide) (by decide) (by decide), gcw_154, by decide +kernel, by decide +kernel⟩
theorem st_223_224 : gSite 223 224 := ⟨gML_all 224 (by decide) (by decide) (by decide), gcw_224, by decide +kernel, by decide +kernel⟩
theorem st_224_220 : gSite 224 220 := ⟨gML_all 220 (by decide) (by decide) (by decide), gcw_220, by decide +kernel, by decide +kernel⟩
theorem st_225_155 : gSite 225 155 := ⟨gML_all 155 (by decide) (by decide) (by decide), gcw_155, by decide +kernel, by decide +kernel⟩
theorem st_226_96 : gSite 226 96 := ⟨gML_all 96 (by decide) (by decide) (by decide), gcw_96, by decide +kernel, by decide +kernel⟩
theorem st_226_97 : gSite 226 97 := ⟨gML_all 97 (by decide) (by decide) (by decide), gcw_97, by decide +kernel, by decide +kernel⟩
theorem st_228_166 : gSite 228 166 := ⟨gML_all 166 (by decide) (by decide) (by decide), gcw_166, by decide +kernel, by decide +kernel⟩
theorem st_228_167 : gSite 228 167 := ⟨gML_all 167 (by decide) (by decide) (by decide), gcw_167, by decide +kernel, by decide +kernel⟩
theorem st_228_171 : gSite 228 171 := ⟨gML_all 171 (by decide) (by decide) (by decide), gcw_171, by decide +kernel, by decide +kernel⟩
theorem st_228_172 : gSite 228 172 := ⟨gML_all 172 (by decide) (by decide) (by decide), gcw_172, by decide +kernel, by decide +kernel⟩
theorem st_228_87 : gSite 228 87 := ⟨gML_all 87 (by decide) (by decide) (by decide), gcw_87, by decide +kernel, by decide +kernel⟩
theorem st_229_166 : gSite 229 166 := ⟨gML_all 166 (by decide) (by decide) (by decide), gcw_166, by decide +kernel, by decide +kernel⟩
theorem st_229_171 : gSite 229 171 := ⟨gML_all 171 (by decide) (by decide) (by decide), gcw_171, by decide +kernel, by decide +kernel⟩
theorem st_229_87 : gSite 229 87 := ⟨gML_all 87 (by decide) (by decide) (by decide), gcw_87, by decide +kernel, by decide +kernel⟩
theorem st_22_77 : gSite 22 77 := ⟨gML_all 77 (by decide) (by decide) (by decide), gcw_77, by decide +kernel, by decide +kernel⟩
theorem st_231_121 : gSite 231 121 := ⟨gML_all 121 (by decide) (by decide) (by decide), gcw_121, by decide +kernel, by decide +kernel⟩
theorem st_231_135 : gSite 231 135 := ⟨gML_all 135 (by decide) (by decide) (by decide), gcw_135, by decide +kernel, by decide +kernel⟩
theorem st_231_148 : gSite 231 148 := ⟨gML_all 148 (by decide) (by decide) (by decide), gcw_148, by decide +kernel, by decide +kernel⟩
theorem st_231_149 : gSite 231 149 := ⟨gML_all 149 (by decide) (by decide) (by decide), gcw_149, by decide +kernel, by decide +kernel⟩
theorem st_231_16 : gSite 231 16 := ⟨gML_all 16 (by decide) (by decide) (by decide), gcw_16, by decide +kernel, by decide +kernel⟩
theorem st_231_195 : gSite 231 195 := ⟨gML_all 195 (by decide) (by decide) (by decide), gcw_195, by decide +kernel, by decide +kernel⟩
theorem st_231_38 : gSite 231 38 := ⟨gML_all 38 (by decide) (by decide) (by decide), gcw_38, by decide +kernel, by decide +kernel⟩
theorem st_231_48 : gSite 231 48 := ⟨gML_all 48 (by decide) (by decide) (by decide), gcw_48, by decide +kernel, by decide +kernel⟩
theorem st_231_51 : gSite 231 51 := ⟨gML_all 51 (by decide) (by decide) (by decide), gcw_51, by decide +kernel, by decide +kernel⟩
theorem st_233_6 : gSite 233 6 := ⟨gML_all 6 (by decide) (by decide) (by decide), gcw_6, by decide +kernel, by decide +kernel⟩
theorem st_234_75 : gSite 234 75 := ⟨gML_all 75 (by decide) (by decide) (by decide), gcw_75, by decide +kernel, by decide +kernel⟩
theorem st_238_165 : gSite 238 165 := ⟨gML_all 165 (by decide) (by decide) (by decide), gcw_165, by decide +kernel, by decide +kernel⟩
theorem st_238_166 : gSite 238 166 := ⟨gML_all 166 (by decide) (by decide) (by decide), gcw_166, by decide +kernel, by decide +kernel⟩
theorem st_238_168 : gSite 238 168 := ⟨gML_all 168 (by decide) (by decide) (by decide), gcw_168, by decide +kernel, by decide +kernel⟩
theorem st_238_7 : gSite 238 7 := ⟨gML_all 7 (by decide) (by decide) (by decide), gcw_7, by decide +kernel, by decide +kernel⟩
theorem st_239_166 : gSite 239 166 := ⟨gML_all 166 (by decide) (by decide) (by decide), gcw_166, by decide +kernel, by decide +kernel⟩
theorem st_239_167 : gSite 239 167 := ⟨gML_all 167 (by decide) (by decide) (by decide), gcw_167, by decide +kernel, by decide +kernel⟩
theorem st_239_168 : gSite 239 168 := ⟨gML_all 168 (by decide) (by decide) (by decide), gcw_168, by decide +kernel, by decide +kernel⟩
theorem st_239_50 : gSite 239 50 := ⟨gML_all 50 (by decide) (by decide) (by decide), gcw_50, by decide +kernel, by decide +kernel⟩
theorem st_239_9 : gSite 239 9 := ⟨gML_all 9 (by decide) (by decide) (by decide), gcw_9, by decide +kernel, by decide +kernel⟩
theorem st_23_75 : gSite 23 75 := ⟨gML_all 75 (by decide) (by decide) (by decide), gcw_75, by decide +kernel, by decide +kernel⟩
theorem st_240_167 : gSite 240 167 := ⟨gML_all 167 (by decide) (by decide) (by decide), gcw_167, by decide +kernel, by decide +kernel⟩
theorem st_244_245 : gSite 244 245 := ⟨gML_all 245 (by decide) (by decide) (by decide), gcw_245, by decide +kernel, by decide +kernel⟩
theorem st_247_246 : gSite 247 246 := ⟨gML_all 246 (by decide) (by decide) (by decide), gcw_246, by decide +kernel, by decide +kernel⟩
theorem st_249_246 : gSite 249 246 := ⟨gML_all 246 (by decide) (by decide) (by decide), gcw_246, by decide +kernel, by decide +kernel⟩
theorem st_249_248 : gSite 249 248 := ⟨gML_all 248 (by decide) (by decide) (by decide), gcw_248, by decide +kernel, by decide +kernel⟩
theorem st_24_20 : gSite 24 20 := ⟨gML_all 20 (by decide) (by decide) (by decide), gcw_20, by decide +kernel, by decide +kernel⟩
theorem st_24_26 : gSite 24 26 := ⟨gML_all 26 (by decide) (by decide) (by decide), gcw_26, by decide +kernel, by decide +kernel⟩
theorem st_24_31 : gSite 24 31 := ⟨gML_all 31 (by decide) (by decide) (by decide), gcw_31, by decide +kernel, by decide +kernel⟩
theorem st_24_33 : gSite 24 33 := ⟨gML_all 33 (by decide) (by decide) (by decide), gcw_33, by decide +kernel, by decide +kernel⟩
theorem st_24_41 : gSite 24 41 := ⟨gML_all 41 (by decide) (by decide) (by decide), gcw_41, by decide +kernel, by decide +kernel⟩
theorem st_24_43 : gSite 24 43 := ⟨gML_all 43 (by decide) (by decide) (by decide), gcw_43, by decide +kernel, by decide +kernel⟩
theorem st_24_52 : gSite 24 52 := ⟨gML_all 52 (by decide) (by decide) (by decide), gcw_52, by decide +kernel, by decide +kernel⟩
theorem st_24_61 : gSite 24 61 := ⟨gML_all 61 (by decide) (by decide) (by decide), gcw_61, by decide +kernel, by decide +kernel⟩
theorem st_24_75 : gSite 24 75 := ⟨gML_all 75 (by decide) (by decide) (by decide), gcw_75, by decide +kernel, by decide +kernel⟩
theorem st_250_247 : gSite 250 247 := ⟨gML_all 247 (by decide) (by decide) (by decide), gcw_247, by decide +kernel, by decide +kernel⟩
theorem st_251_249 : gSite 251 249 := ⟨gML_all 249 (by decide) (by decide) (by decide), gcw_249, by decide +kernel, by decide +kernel⟩
theorem st_251_252 : gSite 251 252 := ⟨gML_all 252 (by decide) (by decide) (by decide), gcw_252, by decide +kernel, by decide +kernel⟩
theorem st_252_250 : gSite 252 250 := ⟨gML_all 250 (by decide) (by decide) (by decide), gcw_250, by decide +kernel, by decide +kernel⟩
theorem st_256_253 : gSite 256 253 := ⟨gML_all 253 (by decide) (by decide) (by decide), gcw_253, by decide +kernel, by decide +kernel⟩
theorem st_257_255 : gSite 257 255 := ⟨gML_all 255 (by decide) (by decide) (by decide), gcw_255, by decide +kernel, by decide +kernel⟩
theorem st_258_255 : gSite 258 255 := ⟨gML_all 255 (by decide) (by decide) (by decide), gcw_255, by decide +kernel, by decide +kernel⟩
theorem st_259_253 : gSite 259 253 := ⟨gML_all 253 (by decide) (by decide) (by decide), gcw_253, by decide +kernel, by decide +kernel⟩
theorem st_259_258 : gSite 259 258 := ⟨gML_all 258 (by decide) (by decide) (by decide), gcw_258, by decide +kernel, by decide +kernel⟩
theorem st_25_117 : gSite 25 117 := ⟨gML_all 117 (by decide) (by decide) (by decide), gcw_117, by decide +kernel, by decide +kernel⟩
theorem st_25_27 : gSite 25 27 := ⟨gML_all 27 (by decide) (by decide) (by decide), gcw_27, by decide +kernel, by decide +kernel⟩
theorem st_25_30 : gSite 25 30 := ⟨gML_all 30 (by decide) (by decide) (by decide), gcw_30, by decide +kernel, by decide +kernel⟩
theorem st_25_32 : gSite 25 32 := ⟨gML_all 32 (by decide) (by decide) (by decide), gcw_32, by decide +kernel, by decide +kernel⟩
theorem st_25_35 : gSite 25 35 := ⟨gML_all 35 (by decide) (by decide) (by decide), gcw_35, by decide +kernel, by decide +kernel⟩
theorem st_25_39 : gSite 25 39 := ⟨gML_all 39 (by decide) (by decide) (by decide), gcw_39, by decide +kernel, by decide +kernel⟩
theorem st_25_42 : gSite 25 42 := ⟨gML_all 42 (by decide) (by decide) (by decide), gcw_42, by decide +kernel, by decide +kernel⟩
theorem st_25_45 : gSite 25 45 := ⟨gML_all 45 (by decide) (by decide) (by decide), gcw_45, by decide +kernel, by decide +kernel⟩
theorem st_25_58 : gSite 25 58 := ⟨gML_all 58 (by decide) (by decide) (by decide), gcw_58, by decide +kernel, by decide +kernel⟩
theorem st_25_62 : gSite 25 62 := ⟨gML_all 62 (by decide) (by decide) (by decide), gcw_62, by decide +kernel, by decide +kernel⟩
theorem st_25_75 : gSite 25 75 := ⟨gML_all 75 (by decide) (by decide) (by decide), gcw_75, by decide +kernel, by decide +kernel⟩
theorem st_260_253 : gSite 260 253 := ⟨gML_all 253 (by decide) (by decide) (by decide), gcw_253, by decide +kernel, by decide +kernel⟩
theorem st_260_258 : gSite 260 258 := ⟨gML_all 258 (by decide) (by decide) (by decide), gcw_258, by decide +kernel, by decide +kernel⟩
theorem st_261_253 : gSite 261 253 := ⟨gML_all 253 (by decide) (by decide) (by decide), gcw_253, by decide +kernel, by decide +kernel⟩
theorem st_261_258 : gSite 261 258 := ⟨gML_all 258 (by decide) (by decide) (by decide), gcw_258, by decide +kernel, by decide +kernel⟩
theorem st_262_255 : gSite 262 255 := ⟨gML_all 255 (by decide) (by decide) (by decide), gcw_255, by decide +kernel, by decide +kernel⟩
theorem st_263_254 : gSite 263 254 := ⟨gML_all 254 (by decide) (by decide) (by decide), gcw_254, by decide +kernel, by decide +kernel⟩
theorem st_263_255 : gSite 263 255 := ⟨gML_all 255 (by decide) (by decide) (by decide), gcw_255, by decide +kernel, by decide +kernel⟩
theorem st_263_256 : gSite 263 256 := ⟨gML_all 256 (by decide) (by decide) (by decide), gcw_256, by decide +kernel, by decide +kernel⟩
theorem st_264_253 : gSite 264 253 := ⟨gML_all 253 (by decide) (by decide) (by decide), gcw_253, by decide +kernel, by decide +kernel⟩
theorem st_264_255 : gSite 264 255 := ⟨gML_all 255 (by decide) (by decide) (by decide), gcw_255, by decide +kernel, by decide +kernel⟩
theorem st_264_265 : gSite 264 265 := ⟨gML_all 265 (by decide) (by decide) (by decide), gcw_265, by decide +kernel, by decide +kernel⟩
theorem st_264_299 : gSite 264 299 := ⟨gML_all 299 (by decide) (by decide) (by decide), gcw_299, by decide +kernel, by decide +kernel⟩
theorem st_265_266 : gSite 265 266 := ⟨gML_all 266 (by decide) (by decide) (by decide), gcw_266, by decide +kernel, by decide +kernel⟩
theorem st_265_267 : gSite 265 267 := ⟨gML_all 267 (by decide) (by decide) (by decide), gcw_267, by decide +kernel, by decide +kernel⟩
theorem st_267_249 : gSite 267 249 := ⟨gML_all 249 (by decide) (by decide) (by decide), gcw_249, by decide +kernel, by decide +kernel⟩
theorem st_267_268 : gSite 267 268 := ⟨gML_all 268 (by decide) (by decide) (by decide), gcw_268, by decide +kernel, by decide +kernel⟩
theorem st_268_245 : gSite 268 245 := ⟨gML_all 245 (by decide) (by decide) (by decide), gcw_245, by decide +kernel, by decide +kernel⟩
theorem st_268_269 : gSite 268 269 := ⟨gML_all 269 (by decide) (by decide) (by decide), gcw_269, by decide +kernel, by decide +kernel⟩
theorem st_268_270 : gSite 268 270 := ⟨gML_all 270 (by decide) (by decide) (by decide), gcw_270, by decide +kernel, by decide +kernel⟩
theorem st_269_270 : gSite 269 270 := ⟨gML_all 270 (by decide) (by decide) (by decide), gcw_270, by decide +kernel, by decide +kernel⟩
theorem st_26_20 : gSite 26 20 := ⟨gML_all 20 (by decide) (by decide) (by decide), gcw_20, by decide +kernel, by decide +kernel⟩
theorem st_26_23 : gSite 26 23 := ⟨gML_all 23 (by decide) (by decide) (by decide), gcw_23, by decide +kernel, by decide +kernel⟩
theorem st_270_317 : gSite 270 317 := ⟨gML_all 317 (by decide) (by decide) (by decide), gcw_317, by decide +kernel, by decide +kernel⟩
theorem st_271_245 : gSite 271 245 := ⟨gML_all 245 (by decide) (by decide) (by decide), gcw_245, by decide +kernel, by decide +kernel⟩
theorem st_271_252 : gSite 271 252 := ⟨gML_all 252 (by decide) (by decide) (by decide), gcw_252, by decide +kernel, by decide +kernel⟩
theorem st_271_254 : gSite 271 254 := ⟨gML_all 254 (by decide) (by decide) (by decide), gcw_254, by decide +kernel, by decide +kernel⟩
theorem st_271_256 : gSite 271 256 := ⟨gML_all 256 (by decide) (by decide) (by decide), gcw_256, by decide +kernel, by decide +kernel⟩
theorem st_272_271 : gSite 272 271 := ⟨gML_all 271 (by decide) (by decide) (by decide), gcw_271, by decide +kernel, by decide +kernel⟩
theorem st_275_271 : gSite 275 271 := ⟨gML_all 271 (by decide) (by decide) (by decide), gcw_271, by decide +kernel, by decide +kernel⟩
theorem st_275_273 : gSite 275 273 := ⟨gML_all 273 (by decide) (by decide) (by decide), gcw_273, by decide +kernel, by decide +kernel⟩
theorem st_275_274 : gSite 275 274 := ⟨gML_all 274 (by decide) (by decide) (by decide), gcw_274, by decide +kernel, by decide +kernel⟩
theorem st_275_289 : gSite 275 289 := ⟨gML_all 289 (by decide) (by decide) (by decide), gcw_289, by decide +kernel, by decide +kernel⟩
theorem st_276_274 : gSite 276 274 := ⟨gML_all 274 (by decide) (by decide) (by decide), gcw_274, by decide +kernel, by decide +kernel⟩
theorem st_277_273 : gSite 277 273 := ⟨gML_all 273 (by decide) (by decide) (by decide), gcw_273, by decide +kernel, by decide +kernel⟩
theorem st_277_289 : gSite 277 289 := ⟨gML_all 289 (by decide) (by decide) (by decide), gcw_289, by decide +kernel, by decide +kernel⟩
theorem st_277_290 : gSite 277 290 := ⟨gML_all 290 (by decide) (by decide) (by decide), gcw_290, by decide +kernel, by decide +kernel⟩
theorem st_278_289 : gSite 278 289 := ⟨gML_all 289 (by decide) (by decide) (by decide), gcw_289, by decide +kernel, by decide +kernel⟩
theorem st_278_290 : gSite 278 290 := ⟨gML_all 290 (by decide) (by decide) (by decide), gcw_290, by decide +kernel, by decide +kernel⟩
theorem st_279_278 : gSite 279 278 := ⟨gML_all 278 (by decide) (by decide) (by decide), gcw_278, by decide +kernel, by decide +kernel⟩
theorem st_27_117 : gSite 27 117 := ⟨gML_all 117 (by decide) (by decide) (by decide), gcw_117, by decide +kernel, by decide +kernel⟩
theorem st_27_20 : gSite 27 20 := ⟨gML_all 20 (by decide) (by decide) (by decide), gcw_20, by decide +kernel, by decide +kernel⟩
theorem st_27_22 : gSite 27 22 := ⟨gML_all 22 (by decide) (by decide) (by decide), gcw_22, by decide +kernel, by decide +kernel⟩
theorem st_27_23 : gSite 27 23 := ⟨gML_all 23 (by decide) (by decide) (by decide), gcw_23, by decide +kernel, by decide +kernel⟩
theorem st_27_28 : gSite 27 28 := ⟨gML_all 28 (by decide) (by decide) (by decide), gcw_28, by decide +kernel, by decide +kernel⟩
theorem st_27_29 : gSite 27 29 := ⟨gML_all 29 (by decide) (by decide) (by decide), gcw_29, by decide +kernel, by decide +kernel⟩
theorem st_27_65 : gSite 27 65 := ⟨gML_all 65 (by decide) (by decide) (by decide), gcw_65, by decide +kernel, by decide +kernel⟩
theorem st_280_275 : gSite 280 275 := ⟨gML_all 275 (by decide) (by decide) (by decide), gcw_275, by decide +kernel, by decide +kernel⟩
theorem st_280_277 : gSite 280 277 := ⟨gML_all 277 (by decide) (by decide) (by decide), gcw_277, by decide +kernel, by decide +kernel⟩
theorem st_280_279 : gSite 280 279 := ⟨gML_all 279 (by decide) (by decide) (by decide), gcw_279, by decide +kernel, by decide +kernel⟩
theorem st_280_281 : gSite 280 281 := ⟨gML_all 281 (by decide) (by decide) (by decide), gcw_281, by decide +kernel, by decide +kernel⟩
theorem st_280_282 : gSite 280 282 := ⟨gML_all 282 (by decide) (by decide) (by decide), gcw_282, by decide +kernel, by decide +kernel⟩
theorem st_281_275 : gSite 281 275 := ⟨gML_all 275 (by decide) (by decide) (by decide), gcw_275, by decide +kernel, by decide +kernel⟩
theorem st_281_277 : gSite 281 277 := ⟨gML_all 277 (by decide) (by decide) (by decide), gcw_277, by decide +kernel, by decide +kernel⟩
theorem st_281_279 : gSite 281 279 := ⟨gML_all 279 (by decide) (by decide) (by decide), gcw_279, by decide +kernel, by decide +kernel⟩
theorem st_282_275 : gSite 282 275 := ⟨gML_all 275 (by decide) (by decide) (by decide), gcw_275, by decide +kernel, by decide +kernel⟩
theorem st_282_276 : gSite 282 276 := ⟨gML_all 276 (by decide) (by decide) (by decide), gcw_276, by decide +kernel, by decide +kernel⟩
theorem st_282_277 : gSite 282 277 := ⟨gML_all 277 (by decide) (by decide) (by decide), gcw_277, by decide +kernel, by decide +kernel⟩
theorem st_282_279 : gSite 282 279 := ⟨gML_all 279 (by decide) (by decide) (by decide), gcw_279, by decide +kernel, by decide +kernel⟩
theorem st_283_272 : gSite 283 272 := ⟨gML_all 272 (by decide) (by decide) (by decide), gcw_272, by decide +kernel, by decide +kernel⟩
theorem st_283_274 : gSite 283 274 := ⟨gML_all 274 (by decide) (by decide) (by decide), gcw_274, by decide +kernel, by decide +kernel⟩
theorem st_283_275 : gSite 283 275 := ⟨gML_all 275 (by decide) (by decide) (by decide), gcw_275, by decide +kernel, by decide +kernel⟩
theorem st_283_276 : gSite 283 276 := ⟨gML_all 276 (by decide) (by decide) (by decide), gcw_276, by decide +kernel, by decide +kernel⟩
theorem st_283_279 : gSite 283 279 := ⟨gML_all 279 (by decide) (by decide) (by decide), gcw_279, by decide +kernel, by decide +kernel⟩
theorem st_283_284 : gSite 283 284 := ⟨gML_all 284 (by decide) (by decide) (by decide), gcw_284, by decide +kernel, by decide +kernel⟩
theorem st_286_272 : gSite 286 272 := ⟨gML_all 272 (by decide) (by decide) (by decide), gcw_272, by decide +kernel, by decide +kernel⟩
theorem st_286_274 : gSite 286 274 := ⟨gML_all 274 (by decide) (by decide) (by decide), gcw_274, by decide +kernel, by decide +kernel⟩
theorem st_286_275 : gSite 286 275 := ⟨gML_all 275 (by decide) (by decide) (by decide), gcw_275, by decide +kernel, by decide +kernel⟩
theorem st_286_278 : gSite 286 278 := ⟨gML_all 278 (by decide) (by decide) (by decide), gcw_278, by decide +kernel, by decide +kernel⟩
theorem st_286_279 : gSite 286 279 := ⟨gML_all 279 (by decide) (by decide) (by decide), gcw_279, by decide +kernel, by decide +kernel⟩
theorem st_286_285 : gSite 286 285 := ⟨gML_all 285 (by decide) (by decide) (by decide), gcw_285, by decide +kernel, by decide +kernel⟩
theorem st_289_288 : gSite 289 288 := ⟨gML_all 288 (by decide) (by decide) (by decide), gcw_288, by decide +kernel, by decide +kernel⟩
theorem st_290_288 : gSite 290 288 := ⟨gML_all 288 (by decide) (by decide) (by decide), gcw_288, by decide +kernel, by decide +kernel⟩
theorem st_292_245 : gSite 292 245 := ⟨gML_all 245 (by decide) (by decide) (by decide), gcw_245, by decide +kernel, by decide +kernel⟩
theorem st_293_291 : gSite 293 291 := ⟨gML_all 291 (by decide) (by decide) (by decide), gcw_291, by decide +kernel, by decide +kernel⟩
theorem st_294_292 : gSite 294 292 := ⟨gML_all 292 (by decide) (by decide) (by decide), gcw_292, by decide +kernel, by decide +kernel⟩
theorem st_294_293 : gSite 294 293 := ⟨gML_all 293 (by decide) (by decide) (by decide), gcw_293, by decide +kernel, by decide +kernel⟩
theorem st_295_271 : gSite 295 271 := ⟨gML_all 271 (by decide) (by decide) (by decide), gcw_271, by decide +kernel, by decide +kernel⟩
theorem st_295_273 : gSite 295 273 := ⟨gML_all 273 (by decide) (by decide) (by decide), gcw_273, by decide +kernel, by decide +kernel⟩
theorem st_295_275 : gSite 295 275 := ⟨gML_all 275 (by decide) (by decide) (by decide), gcw_275, by decide +kernel, by decide +kernel⟩
theorem st_295_289 : gSite 295 289 := ⟨gML_all 289 (by decide) (by decide) (by decide), gcw_289, by decide +kernel, by decide +kernel⟩
theorem st_295_292 : gSite 295 292 := ⟨gML_all 292 (by decide) (by decide) (by decide), gcw_292, by decide +kernel, by decide +kernel⟩
theorem st_295_293 : gSite 295 293 := ⟨gML_all 293 (by decide) (by decide) (by decide), gcw_293, by decide +kernel, by decide +kernel⟩
theorem st_297_288 : gSite 297 288 := ⟨gML_all 288 (by decide) (by decide) (by decide), gcw_288, by decide +kernel, by decide +kernel⟩
theorem st_299_266 : gSite 299 266 := ⟨gML_all 266 (by decide) (by decide) (by decide), gcw_266, by decide +kernel, by decide +kernel⟩
theorem st_299_300 : gSite 299 300 := ⟨gML_all 300 (by decide) (by decide) (by decide), gcw_300, by decide +kernel, by decide +kernel⟩
theorem st_299_302 : gSite 299 302 := ⟨gML_all 302 (by decide) (by decide) (by decide), gcw_302, by decide +kernel, by decide +kernel⟩
theorem st_29_6 : gSite 29 6 := ⟨gML_all 6 (by decide) (by decide) (by decide), gcw_6, by decide +kernel, by decide +kernel⟩
theorem st_29_65 : gSite 29 65 := ⟨gML_all 65 (by decide) (by decide) (by decide), gcw_65, by decide +kernel, by decide +kernel⟩
theorem st_29_67 : gSite 29 67 := ⟨gML_all 67 (by decide) (by decide) (by decide), gcw_67, by decide +kernel, by decide +kernel⟩
theorem st_2_1 : gSite 2 1 := ⟨gML_all 1 (by decide) (by decide) (by decide), gcw_1, by decide +kernel, by decide +kernel⟩
theorem st_302_245 : gSite 302 245 := ⟨gML_all 245 (by decide) (by decide) (by decide), gcw_245, by decide +kernel, by decide +kernel⟩
theorem st_302_280 : gSite 302 280 := ⟨gML_all 280 (by decide) (by decide) (by decide), gcw_280, by decide +kernel, by decide +kernel⟩
theorem st_302_346 : gSite 302 346 := ⟨gML_all 346 (by decide) (by decide) (by decide), gcw_346, by decide +kernel, by decide +kernel⟩
theorem st_305_245 : gSite 305 245 := ⟨gML_all 245 (by decide) (by decide) (by decide), gcw_245, by decide +kernel, by decide +kernel⟩
theorem st_305_273 : gSite 305 273 := ⟨gML_all 273 (by decide) (by decide) (by decide), gcw_273, by decide +kernel, by decide +kernel⟩
theorem st_305_306 : gSite 305 306 := ⟨gML_all 306 (by decide) (by decide) (by decide), gcw_306, by decide +kernel, by decide +kernel⟩
theorem st_305_307 : gSite 305 307 := ⟨gML_all 307 (by decide) (by decide) (by decide), gcw_307, by decide +kernel, by decide +kernel⟩
theorem st_307_273 : gSite 307 273 := ⟨gML_all 273 (by decide) (by decide) (by decide), gcw_273, by decide +kernel, by decide +kernel⟩
theorem st_307_308 : gSite 307 308 := ⟨gML_all 308 (by decide) (by decide) (by decide), gcw_308, by decide +kernel, by decide +kernel⟩
theorem st_308_273 : gSite 308 273 := ⟨gML_all 273 (by decide) (by decide) (by decide), gcw_273, by decide +kernel, by decide +kernel⟩
theorem st_30_20 : gSite 30 20 := ⟨gML_all 20 (by decide) (by decide) (by decide), gcw_20, by decide +kernel, by decide +kernel⟩
theorem st_30_22 : gSite 30 22 := ⟨gML_all 22 (by decide) (by decide) (by decide), gcw_22, by decide +kernel, by decide +kernel⟩
theorem st_30_28 : gSite 30 28 := ⟨gML_all 28 (by decide) (by decide) (by decide), gcw_28, by decide +kernel, by decide +kernel⟩
theorem st_312_311 : gSite 312 311 := ⟨gML_all 311 (by decide) (by decide) (by decide), gcw_311, by decide +kernel, by decide +kernel⟩
theorem st_315_313 : gSite 315 313 := ⟨gML_all 313 (by decide) (by decide) (by decide), gcw_313, by decide +kernel, by decide +kernel⟩
theorem st_316_245 : gSite 316 245 := ⟨gML_all 245 (by decide) (by decide) (by decide), gcw_245, by decide +kernel, by decide +kernel⟩
theorem st_316_310 : gSite 316 310 := ⟨gML_all 310 (by decide) (by decide) (by decide), gcw_310, by decide +kernel, by decide +kernel⟩
theorem st_316_312 : gSite 316 312 := ⟨gML_all 312 (by decide) (by decide) (by decide), gcw_312, by decide +kernel, by decide +kernel⟩
theorem st_316_313 : gSite 316 313 := ⟨gML_all 313 (by decide) (by decide) (by decide), gcw_313, by decide +kernel, by decide +kernel⟩
theorem st_316_315 : gSite 316 315 := ⟨gML_all 315 (by decide) (by decide) (by decide), gcw_315, by decide +kernel, by decide +kernel⟩
theorem st_317_273 : gSite 317 273 := ⟨gML_all 273 (by decide) (by decide) (by decide), gcw_273, by decide +kernel, by decide +kernel⟩
theorem st_317_316 : gSite 317 316 := ⟨gML_all 316 (by decide) (by decide) (by decide), gcw_316, by decide +kernel, by decide +kernel⟩
theorem st_317_318 : gSite 317 318 := ⟨gML_all 318 (by decide) (by decide) (by decide), gcw_318, by decide +kernel, by decide +kernel⟩
theorem st_318_303 : gSite 318 303 := ⟨gML_all 303 (by decide) (by decide) (by decide), gcw_303, by decide +kernel, by decide +kernel⟩
theorem st_318_305 : gSite 318 305 := ⟨gML_all 305 (by decide) (by decide) (by decide), gcw_305, by decide +kernel, by decide +kernel⟩
theorem st_319_273 : gSite 319 273 := ⟨gML_all 273 (by decide) (by decide) (by decide), gcw_273, by decide +kernel, by decide +kernel⟩
theorem st_319_318 : gSite 319 318 := ⟨gML_all 318 (by decide) (by decide) (by decide), gcw_318, by decide +kernel, by decide +kernel⟩
theorem st_319_321 : gSite 319 321 := ⟨gML_all 321 (by decide) (by decide) (by decide), gcw_321, by decide +kernel, by decide +kernel⟩
theorem st_319_325 : gSite 319 325 := ⟨gML_all 325 (by decide) (by decide) (by decide), gcw_325, by decide +kernel, by decide +kernel⟩
theorem st_31_20 : gSite 31 20 := ⟨gML_all 20 (by decide) (by decide) (by decide), gcw_20, by decide +kernel, by decide +kernel⟩
theorem st_31_21 : gSite 31 21 := ⟨gML_all 21 (by decide) (by decide) (by decide), gcw_21, by decide +kernel, by decide +kernel⟩
theorem st_31_23 : gSite 31 23 := ⟨gML_all 23 (by decide) (by decide) (by decide), gcw_23, by decide +kernel, by decide +kernel⟩
theorem st_321_313 : gSite 321 313 := ⟨gML_all 313 (by decide) (by decide) (by decide), gcw_313, by decide +kernel, by decide +kernel⟩
theorem st_321_320 : gSite 321 320 := ⟨gML_all 320 (by decide) (by decide) (by decide), gcw_320, by decide +kernel, by decide +kernel⟩
theorem st_321_322 : gSite 321 322 := ⟨gML_all 322 (by decide) (by decide) (by decide), gcw_322, by decide +kernel, by decide +kernel⟩
theorem st_321_323 : gSite 321 323 := ⟨gML_all 323 (by decide) (by decide) (by decide), gcw_323, by decide +kernel, by decide +kernel⟩
theorem st_321_324 : gSite 321 324 := ⟨gML_all 324 (by decide) (by decide) (by decide), gcw_324, by decide +kernel, by decide +kernel⟩
theorem st_322_314 : gSite 322 314 := ⟨gML_all 314 (by decide) (by decide) (by decide), gcw_314, by decide +kernel, by decide +kernel⟩
theorem st_323_313 : gSite 323 313 := ⟨gML_all 313 (by decide) (by decide) (by decide), gcw_313, by decide +kernel, by decide +kernel⟩
theorem st_323_314 : gSite 323 314 := ⟨gML_all 314 (by decide) (by decide) (by decide), gcw_314, by decide +kernel, by decide +kernel⟩
theorem st_323_333 : gSite 323 333 := ⟨gML_all 333 (by decide) (by decide) (by decide), gcw_333, by decide +kernel, by decide +kernel⟩
theorem st_324_306 : gSite 324 306 := ⟨gML_all 306 (by decide) (by decide) (by decide), gcw_306, by decide +kernel, by decide +kernel⟩
theorem st_325_305 : gSite 325 305 := ⟨gML_all 305 (by decide) (by decide) (by decide), gcw_305, by decide +kernel, by decide +kernel⟩
theorem st_325_314 : gSite 325 314 := ⟨gML_all 314 (by decide) (by decide) (by decide), gcw_314, by decide +kernel, by decide +kernel⟩
theorem st_325_326 : gSite 325 326 := ⟨gML_all 326 (by decide) (by decide) (by decide), gcw_326, by decide +kernel, by decide +kernel⟩
theorem st_325_327 : gSite 325 327 := ⟨gML_all 327 (by decide) (by decide) (by decide), gcw_327, by decide +kernel, by decide +kernel⟩
theorem st_325_329 : gSite 325 329 := ⟨gML_all 329 (by decide) (by decide) (by decide), gcw_329, by decide +kernel, by decide +kernel⟩
theorem st_325_330 : gSite 325 330 := ⟨gML_all 330 (by decide) (by decide) (by decide), gcw_330, by decide +kernel, by decide +kernel⟩
theorem st_325_331 : gSite 325 331 := ⟨gML_all 331 (by decide) (by decide) (by decide), gcw_331, by decide +kernel, by decide +kernel⟩
theorem st_325_332 : gSite 325 332 := ⟨gML_all 332 (by decide) (by decide) (by decide), gcw_332, by decide +kernel, by decide +kernel⟩
theorem st_325_336 : gSite 325 336 := ⟨gML_all 336 (by decide) (by decide) (by decide), gcw_336, by decide +kernel, by decide +kernel⟩
theorem st_325_337 : gSite 325 337 := ⟨gML_all 337 (by decide) (by decide) (by decide), gcw_337, by decide +kernel, by decide +kernel⟩
theorem st_326_303 : gSite 326 303 := ⟨gML_all 303 (by decide) (by decide) (by decide), gcw_303, by decide +kernel, by decide +kernel⟩
theorem st_326_304 : gSite 326 304 := ⟨gML_all 304 (by decide) (by decide) (by decide), gcw_304, by decide +kernel, by decide +kernel⟩
theorem st_326_305 : gSite 326 305 := ⟨gML_all 305 (by decide) (by decide) (by decide), gcw_305, by decide +kernel, by decide +kernel⟩
theorem st_326_314 : gSite 326 314 := ⟨gML_all 314 (by decide) (by decide) (by decide), gcw_314, by decide +kernel, by decide +kernel⟩
theorem st_327_245 : gSite 327 245 := ⟨gML_all 245 (by decide) (by decide) (by decide), gcw_245, by decide +kernel, by decide +kernel⟩
theorem st_327_303 : gSite 327 303 := ⟨gML_all 303 (by decide) (by decide) (by decide), gcw_303, by decide +kernel, by decide +kernel⟩
theorem st_327_305 : gSite 327 305 := ⟨gML_all 305 (by decide) (by decide) (by decide), gcw_305, by decide +kernel, by decide +kernel⟩
theorem st_327_313 : gSite 327 313 := ⟨gML_all 313 (by decide) (by decide) (by decide), gcw_313, by decide +kernel, by decide +kernel⟩
theorem st_328_303 : gSite 328 303 := ⟨gML_all 303 (by decide) (by decide) (by decide), gcw_303, by decide +kernel, by decide +kernel⟩
theorem st_328_304 : gSite 328 304 := ⟨gML_all 304 (by decide) (by decide) (by decide), gcw_304, by decide +kernel, by decide +kernel⟩
theorem st_328_305 : gSite 328 305 := ⟨gML_all 305 (by decide) (by decide) (by decide), gcw_305, by decide +kernel, by decide +kernel⟩
theorem st_329_313 : gSite 329 313 := ⟨gML_all 313 (by decide) (by decide) (by decide), gcw_313, by decide +kernel, by decide +kernel⟩
theorem st_329_328 : gSite 329 328 := ⟨gML_all 328 (by decide) (by decide) (by decide), gcw_328, by decide +kernel, by decide +kernel⟩
theorem st_32_117 : gSite 32 117 := ⟨gML_all 117 (by decide) (by decide) (by decide), gcw_117, by decide +kernel, by decide +kernel⟩
theorem st_32_20 : gSite 32 20 := ⟨gML_all 20 (by decide) (by decide) (by decide), gcw_20, by decide +kernel, by decide +kernel⟩
theorem st_32_21 : gSite 32 21 := ⟨gML_all 21 (by decide) (by decide) (by decide), gcw_21, by decide +kernel, by decide +kernel⟩
theorem st_32_23 : gSite 32 23 := ⟨gML_all 23 (by decide) (by decide) (by decide), gcw_23, by decide +kernel, by decide +kernel⟩
theorem st_32_65 : gSite 32 65 := ⟨gML_all 65 (by decide) (by decide) (by decide), gcw_65, by decide +kernel, by decide +kernel⟩
theorem st_32_66 : gSite 32 66 := ⟨gML_all 66 (by decide) (by decide) (by decide), gcw_66, by decide +kernel, by decide +kernel⟩
theorem st_32_70 : gSite 32 70 := ⟨gML_all 70 (by decide) (by decide) (by decide), gcw_70, by decide +kernel, by decide +kernel⟩
theorem st_32_73 : gSite 32 73 := ⟨gML_all 73 (by decide) (by decide) (by decide), gcw_73, by decide +kernel, by decide +kernel⟩
theorem st_32_78 : gSite 32 78 := ⟨gML_all 78 (by decide) (by decide) (by decide), gcw_78, by decide +kernel, by decide +kernel⟩
theorem st_330_273 : gSite 330 273 := ⟨gML_all 273 (by decide) (by decide) (by decide), gcw_273, by decide +kernel, by decide +kernel⟩
theorem st_330_303 : gSite 330 303 := ⟨gML_all 303 (by decide) (by decide) (by decide), gcw_303, by decide +kernel, by decide +kernel⟩
theorem st_330_305 : gSite 330 305 := ⟨gML_all 305 (by decide) (by decide) (by decide), gcw_305, by decide +kernel, by decide +kernel⟩
theorem st_330_317 : gSite 330 317 := ⟨gML_all 317 (by decide) (by decide) (by decide), gcw_317, by decide +kernel, by decide +kernel⟩
theorem st_331_303 : gSite 331 303 := ⟨gML_all 303 (by decide) (by decide) (by decide), gcw_303, by decide +kernel, by decide +kernel⟩
theorem st_331_305 : gSite 331 305 := ⟨gML_all 305 (by decide) (by decide) (by decide), gcw_305, by decide +kernel, by decide +kernel⟩
theorem st_331_314 : gSite 331 314 := ⟨gML_all 314 (by decide) (by decide) (by decide), gcw_314, by decide +kernel, by decide +kernel⟩
theorem st_332_273 : gSite 332 273 := ⟨gML_all 273 (by decide) (by decide) (by decide), gcw_273, by decide +kernel, by decide +kernel⟩
theorem st_333_313 : gSite 333 313 := ⟨gML_all 313 (by decide) (by decide) (by decide), gcw_313, by decide +kernel, by decide +kernel⟩
theorem st_334_335 : gSite 334 335 := ⟨gML_all 335 (by decide) (by decide) (by decide), gcw_335, by decide +kernel, by decide +kernel⟩
theorem st_335_273 : gSite 335 273 := ⟨gML_all 273 (by decide) (by decide) (by decide), gcw_273, by decide +kernel, by decide +kernel⟩
theorem st_336_273 : gSite 336 273 := ⟨gML_all 273 (by decide) (by decide) (by decide), gcw_273, by decide +kernel, by decide +kernel⟩
theorem st_336_303 : gSite 336 303 := ⟨gML_all 303 (by decide) (by decide) (by decide), gcw_303, by decide +kernel, by decide +kernel⟩
theorem st_336_305 : gSite 336 305 := ⟨gML_all 305 (by decide) (by decide) (by decide), gcw_305, by decide +kernel, by decide +kernel⟩
theorem st_336_313 : gSite 336 313 := ⟨gML_all 313 (by decide) (by decide) (by decide), gcw_313, by decide +kernel, by decide +kernel⟩
theorem st_336_314 : gSite 336 314 := ⟨gML_all 314 (by decide) (by decide) (by decide), gcw_314, by decide +kernel, by decide +kernel⟩
theorem st_336_333 : gSite 336 333 := ⟨gML_all 333 (by decide) (by decide) (by decide), gcw_333, by decide +kernel, by decide +kernel⟩
theorem st_336_334 : gSite 336 334 := ⟨gML_all 334 (by decide) (by decide) (by decide), gcw_334, by decide +kernel, by decide +kernel⟩
theorem st_336_335 : gSite 336 335 := ⟨gML_all 335 (by decide) (by decide) (by decide), gcw_335, by decide +kernel, by decide +kernel⟩
theorem st_337_273 : gSite 337 273 := ⟨gML_all 273 (by decide) (by decide) (by decide), gcw_273, by decide +kernel, by decide +kernel⟩
theorem st_337_306 : gSite 337 306 := ⟨gML_all 306 (by decide) (by decide) (by decide), gcw_306, by decide +kernel, by decide +kernel⟩
theorem st_337_308 : gSite 337 308 := ⟨gML_all 308 (by decide) (by decide) (by decide), gcw_308, by decide +kernel, by decide +kernel⟩
theorem st_337_314 : gSite 337 314 := ⟨gML_all 314 (by decide) (by decide) (by decide), gcw_314, by decide +kernel, by decide +kernel⟩
theorem st_338_273 : gSite 338 273 := ⟨gML_all 273 (by decide) (by decide) (by decide), gcw_273, by decide +kernel, by decide +kernel⟩
theorem st_338_317 : gSite 338 317 := ⟨gML_all 317 (by decide) (by decide) (by decide), gcw_317, by decide +kernel, by decide +kernel⟩
theorem st_338_334 : gSite 338 334 := ⟨gML_all 334 (by decide) (by decide) (by decide), gcw_334, by decide +kernel, by decide +kernel⟩
theorem st_339_328 : gSite 339 328 := ⟨gML_all 328 (by decide) (by decide) (by decide), gcw_328, by decide +kernel, by decide +kernel⟩
theorem st_33_20 : gSite 33 20 := ⟨gML_all 20 (by decide) (by decide) (by decide), gcw_20, by decide +kernel, by decide +kernel⟩
theorem st_33_23 : gSite 33 23 := ⟨gML_all 23 (by decide) (by decide) (by decide), gcw_23, by decide +kernel, by decide +kernel⟩
theorem st_33_34 : gSite 33 34 := ⟨gML_all 34 (by decide) (by decide) (by decide), gcw_34, by decide +kernel, by decide +kernel⟩
theorem st_340_303 : gSite 340 303 := ⟨gML_all 303 (by decide) (by decide) (by decide), gcw_303, by decide +kernel, by decide +kernel⟩
theorem st_340_304 : gSite 340 304 := ⟨gML_all 304 (by decide) (by decide) (by decide), gcw_304, by decide +kernel, by decide +kernel⟩
theorem st_340_305 : gSite 340 305 := ⟨gML_all 305 (by decide) (by decide) (by decide), gcw_305, by decide +kernel, by decide +kernel⟩
theorem st_340_330 : gSite 340 330 := ⟨gML_all 330 (by decide) (by decide) (by decide), gcw_330, by decide +kernel, by decide +kernel⟩
theorem st_341_283 : gSite 341 283 := ⟨gML_all 283 (by decide) (by decide) (by decide), gcw_283, by decide +kernel, by decide +kernel⟩
theorem st_341_319 : gSite 341 319 := ⟨gML_all 319 (by decide) (by decide) (by decide), gcw_319, by decide +kernel, by decide +kernel⟩
theorem st_341_338 : gSite 341 338 := ⟨gML_all 338 (by decide) (by decide) (by decide), gcw_338, by decide +kernel, by decide +kernel⟩
theorem st_341_339 : gSite 341 339 := ⟨gML_all 339 (by decide) (by decide) (by decide), gcw_339, by decide +kernel, by decide +kernel⟩
theorem st_341_340 : gSite 341 340 := ⟨gML_all 340 (by decide) (by decide) (by decide), gcw_340, by decide +kernel, by decide +kernel⟩
theorem st_341_345 : gSite 341 345 := ⟨gML_all 345 (by decide) (by decide) (by decide), gcw_345, by decide +kernel, by decide +kernel⟩
theorem st_343_342 : gSite 343 342 := ⟨gML_all 342 (by decide) (by decide) (by decide), gcw_342, by decide +kernel, by decide +kernel⟩
theorem st_344_273 : gSite 344 273 := ⟨gML_all 273 (by decide) (by decide) (by decide), gcw_273, by decide +kernel, by decide +kernel⟩
theorem st_345_245 : gSite 345 245 := ⟨gML_all 245 (by decide) (by decide) (by decide), gcw_245, by decide +kernel, by decide +kernel⟩
theorem st_345_254 : gSite 345 254 := ⟨gML_all 254 (by decide) (by decide) (by decide), gcw_254, by decide +kernel, by decide +kernel⟩
theorem st_345_256 : gSite 345 256 := ⟨gML_all 256 (by decide) (by decide) (by decide), gcw_256, by decide +kernel, by decide +kernel⟩
theorem st_345_342 : gSite 345 342 := ⟨gML_all 342 (by decide) (by decide) (by decide), gcw_342, by decide +kernel, by decide +kernel⟩
theorem st_345_343 : gSite 345 343 := ⟨gML_all 343 (by decide) (by decide) (by decide), gcw_343, by decide +kernel, by decide +kernel⟩
theorem st_345_344 : gSite 345 344 := ⟨gML_all 344 (by decide) (by decide) (by decide), gcw_344, by decide +kernel, by decide +kernel⟩
theorem st_346_245 : gSite 346 245 := ⟨gML_all 245 (by decide) (by decide) (by decide), gcw_245, by decide +kernel, by decide +kernel⟩
theorem st_346_273 : gSite 346 273 := ⟨gML_all 273 (by decide) (by decide) (by decide), gcw_273, by decide +kernel, by decide +kernel⟩
theorem st_346_313 : gSite 346 313 := ⟨gML_all 313 (by decide) (by decide) (by decide), gcw_313, by decide +kernel, by decide +kernel⟩
theorem st_346_314 : gSite 346 314 := ⟨gML_all 314 (by decide) (by decide) (by decide), gcw_314, by decide +kernel, by decide +kernel⟩
theorem st_346_347 : gSite 346 347 := ⟨gML_all 347 (by decide) (by decide) (by decide), gcw_347, by decide +kernel, by decide +kernel⟩
theorem st_346_348 : gSite 346 348 := ⟨gML_all 348 (by decide) (by decide) (by decide), gcw_348, by decide +kernel, by decide +kernel⟩
theorem st_347_314 : gSite 347 314 := ⟨gML_all 314 (by decide) (by decide) (by decide), gcw_314, by decide +kernel, by decide +kernel⟩
theorem st_348_288 : gSite 348 288 := ⟨gML_all 288 (by decide) (by decide) (by decide), gcw_288, by decide +kernel, by decide +kernel⟩
theorem st_348_313 : gSite 348 313 := ⟨gML_all 313 (by decide) (by decide) (by decide), gcw_313, by decide +kernel, by decide +kernel⟩
theorem st_351_313 : gSite 351 313 := ⟨gML_all 313 (by decide) (by decide) (by decide), gcw_313, by decide +kernel, by decide +kernel⟩
theorem st_351_314 : gSite 351 314 := ⟨gML_all 314 (by decide) (by decide) (by decide), gcw_314, by decide +kernel, by decide +kernel⟩
theorem st_351_350 : gSite 351 350 := ⟨gML_all 350 (by decide) (by decide) (by decide), gcw_350, by decide +kernel, by decide +kernel⟩
theorem st_352_350 : gSite 352 350 := ⟨gML_all 350 (by decide) (by decide) (by decide), gcw_350, by decide +kernel, by decide +kernel⟩
theorem st_355_304 : gSite 355 304 := ⟨gML_all 304 (by decide) (by decide) (by decide), gcw_304, by decide +kernel, by decide +kernel⟩
theorem st_35_20 : gSite 35 20 := ⟨gML_all 20 (by decide) (by decide) (by decide), gcw_20, by decide +kernel, by decide +kernel⟩
theorem st_35_23 : gSite 35 23 := ⟨gML_all 23 (by decide) (by decide) (by decide), gcw_23, by decide +kernel, by decide +kernel⟩
theorem st_35_36 : gSite 35 36 := ⟨gML_all 36 (by decide) (by decide) (by decide), gcw_36, by decide +kernel, by decide +kernel⟩
theorem st_35_37 : gSite 35 37 := ⟨gML_all 37 (by decide) (by decide) (by decide), gcw_37, by decide +kernel, by decide +kernel⟩
theorem st_368_367 : gSite 368 367 := ⟨gML_all 367 (by decide) (by decide) (by decide), gcw_367, by decide +kernel, by decide +kernel⟩
theorem st_36_20 : gSite 36 20 := ⟨gML_all 20 (by decide) (by decide) (by decide), gcw_20, by decide +kernel, by decide +kernel⟩
theorem st_36_21 : gSite 36 21 := ⟨gML_all 21 (by decide) (by decide) (by decide), gcw_21, by decide +kernel, by decide +kernel⟩
theorem st_37_117 : gSite 37 117 := ⟨gML_all 117 (by decide) (by decide) (by decide), gcw_117, by decide +kernel, by decide +kernel⟩
theorem st_37_29 : gSite 37 29 := ⟨gML_all 29 (by decide) (by decide) (by decide), gcw_29, by decide +kernel, by decide +kernel⟩
theorem st_37_65 : gSite 37 65 := ⟨gML_all 65 (by decide) (by decide) (by decide), gcw_65, by decide +kernel, by decide +kernel⟩
theorem st_38_119 : gSite 38 119 := ⟨gML_all 119 (by decide) (by decide) (by decide), gcw_119, by decide +kernel, by decide +kernel⟩
theorem st_38_37 : gSite 38 37 := ⟨gML_all 37 (by decide) (by decide) (by decide), gcw_37, by decide +kernel, by decide +kernel⟩
theorem st_39_20 : gSite 39 20 := ⟨gML_all 20 (by decide) (by decide) (by decide), gcw_20, by decide +kernel, by decide +kernel⟩
theorem st_39_23 : gSite 39 23 := ⟨gML_all 23 (by decide) (by decide) (by decide), gcw_23, by decide +kernel, by decide +kernel⟩
theorem st_3_1 : gSite 3 1 := ⟨gML_all 1 (by decide) (by decide) (by decide), gcw_1, by decide +kernel, by decide +kernel⟩
theorem st_3_64 : gSite 3 64 := ⟨gML_all 64 (by decide) (by decide) (by decide), gcw_64, by decide +kernel, by decide +kernel⟩
theorem st_3_65 : gSite 3 65 := ⟨gML_all 65 (by decide) (by decide) (by decide), gcw_65, by decide +kernel, by decide +kernel⟩
theorem st_3_66 : gSite 3 66 := ⟨gML_all 66 (by decide) (by decide) (by decide), gcw_66, by decide +kernel, by decide +kernel⟩
theorem st_3_68 : gSite 3 68 := ⟨gML_all 68 (by decide) (by decide) (by decide), gcw_68, by decide +kernel, by decide +kernel⟩
theorem st_3_69 : gSite 3 69 := ⟨gML_all 69 (by decide) (by decide) (by decide), gcw_69, by decide +kernel, by decide +kernel⟩
theorem st_3_75 : gSite 3 75 := ⟨gML_all 75 (by decide) (by decide) (by decide), gcw_75, by decide +kernel, by decide +kernel⟩
theorem st_40_117 : gSite 40 117 := ⟨gML_all 117 (by decide) (by decide) (by decide), gcw_117, by decide +kernel, by decide +kernel⟩
theorem st_40_119 : gSite 40 119 := ⟨gML_all 119 (by decide) (by decide) (by decide), gcw_119, by decide +kernel, by decide +kernel⟩
theorem st_40_164 : gSite 40 164 := ⟨gML_all 164 (by decide) (by decide) (by decide), gcw_164, by decide +kernel, by decide +kernel⟩
theorem st_40_165 : gSite 40 165 := ⟨gML_all 165 (by decide) (by decide) (by decide), gcw_165, by decide +kernel, by decide +kernel⟩
theorem st_40_168 : gSite 40 168 := ⟨gML_all 168 (by decide) (by decide) (by decide), gcw_168, by decide +kernel, by decide +kernel⟩
theorem st_40_65 : gSite 40 65 := ⟨gML_all 65 (by decide) (by decide) (by decide), gcw_65, by decide +kernel, by decide +kernel⟩
theorem st_40_67 : gSite 40 67 := ⟨gML_all 67 (by decide) (by decide) (by decide), gcw_67, by decide +kernel, by decide +kernel⟩
theorem st_40_7 : gSite 40 7 := ⟨gML_all 7 (by decide) (by decide) (by decide), gcw_7, by decide +kernel, by decide +kernel⟩
theorem st_41_165 : gSite 41 165 := ⟨gML_all 165 (by decide) (by decide) (by decide), gcw_165, by decide +kernel, by decide +kernel⟩
theorem st_41_20 : gSite 41 20 := ⟨gML_all 20 (by decide) (by decide) (by decide), gcw_20, by decide +kernel, by decide +kernel⟩
theorem st_41_23 : gSite 41 23 := ⟨gML_all 23 (by decide) (by decide) (by decide), gcw_23, by decide +kernel, by decide +kernel⟩
theorem st_42_161 : gSite 42 161 := ⟨gML_all 161 (by decide) (by decide) (by decide), gcw_161, by decide +kernel, by decide +kernel⟩
theorem st_42_162 : gSite 42 162 := ⟨gML_all 162 (by decide) (by decide) (by decide), gcw_162, by decide +kernel, by decide +kernel⟩
theorem st_42_165 : gSite 42 165 := ⟨gML_all 165 (by decide) (by decide) (by decide), gcw_165, by decide +kernel, by decide +kernel⟩
theorem st_42_170 : gSite 42 170 := ⟨gML_all 170 (by decide) (by decide) (by decide), gcw_170, by decide +kernel, by decide +kernel⟩
theorem st_42_20 : gSite 42 20 := ⟨gML_all 20 (by decide) (by decide) (by decide), gcw_20, by decide +kernel, by decide +kernel⟩
theorem st_42_23 : gSite 42 23 := ⟨gML_all 23 (by decide) (by decide) (by decide), gcw_23, by decide +kernel, by decide +kernel⟩
theorem st_43_20 : gSite 43 20 := ⟨gML_all 20 (by decide) (by decide) (by decide), gcw_20, by decide +kernel, by decide +kernel⟩
theorem st_43_23 : gSite 43 23 := ⟨gML_all 23 (by decide) (by decide) (by decide), gcw_23, by decide +kernel, by decide +kernel⟩
theorem st_43_44 : gSite 43 44 := ⟨gML_all 44 (by decide) (by decide) (by decide), gcw_44, by decide +kernel, by decide +kernel⟩
theorem st_44_20 : gSite 44 20 := ⟨gML_all 20 (by decide) (by decide) (by decide), gcw_20, by decide +kernel, by decide +kernel⟩
theorem st_44_22 : gSite 44 22 := ⟨gML_all 22 (by decide) (by decide) (by decide), gcw_22, by decide +kernel, by decide +kernel⟩
theorem st_45_20 : gSite 45 20 := ⟨gML_all 20 (by decide) (by decide) (by decide), gcw_20, by decide +kernel, by decide +kernel⟩
theorem st_45_23 : gSite 45 23 := ⟨gML_all 23 (by decide) (by decide) (by decide), gcw_23, by decide +kernel, by decide +kernel⟩
theorem st_45_46 : gSite 45 46 := ⟨gML_all 46 (by decide) (by decide) (by decide), gcw_46, by decide +kernel, by decide +kernel⟩
theorem st_45_47 : gSite 45 47 := ⟨gML_all 47 (by decide) (by decide) (by decide), gcw_47, by decide +kernel, by decide +kernel⟩
theorem st_46_20 : gSite 46 20 := ⟨gML_all 20 (by decide) (by decide) (by decide), gcw_20, by decide +kernel, by decide +kernel⟩
theorem st_46_22 : gSite 46 22 := ⟨gML_all 22 (by decide) (by decide) (by decide), gcw_22, by decide +kernel, by decide +kernel⟩
theorem st_47_117 : gSite 47 117 := ⟨gML_all 117 (by decide) (by decide) (by decide), gcw_117, by decide +kernel, by decide +kernel⟩
theorem st_47_65 : gSite 47 65 := ⟨gML_all 65 (by decide) (by decide) (by decide), gcw_65, by decide +kernel, by decide +kernel⟩
theorem st_48_10 : gSite 48 10 := ⟨gML_all 10 (by decide) (by decide) (by decide), gcw_10, by decide +kernel, by decide +kernel⟩
theorem st_48_40 : gSite 48 40 := ⟨gML_all 40 (by decide) (by decide) (by decide), gcw_40, by decide +kernel, by decide +kernel⟩
theorem st_48_49 : gSite 48 49 := ⟨gML_all 49 (by decide) (by decide) (by decide), gcw_49, by decide +kernel, by decide +kernel⟩
theorem st_48_6 : gSite 48 6 := ⟨gML_all 6 (by decide) (by decide) (by decide), gcw_6, by decide +kernel, by decide +kernel⟩
theorem st_49_117 : gSite 49 117 := ⟨gML_all 117 (by decide) (by decide) (by decide), gcw_117, by decide +kernel, by decide +kernel⟩
theorem st_49_119 : gSite 49 119 := ⟨gML_all 119 (by decide) (by decide) (by decide), gcw_119, by decide +kernel, by decide +kernel⟩
theorem st_49_65 : gSite 49 65 := ⟨gML_all 65 (by decide) (by decide) (by decide), gcw_65, by decide +kernel, by decide +kernel⟩
theorem st_49_67 : gSite 49 67 := ⟨gML_all 67 (by decide) (by decide) (by decide), gcw_67, by decide +kernel, by decide +kernel⟩
theorem st_50_167 : gSite 50 167 := ⟨gML_all 167 (by decide) (by decide) (by decide), gcw_167, by decide +kernel, by decide +kernel⟩
theorem st_50_363 : gSite 50 363 := ⟨gML_all 363 (by decide) (by decide) (by decide), gcw_363, by decide +kernel, by decide +kernel⟩
theorem st_51_10 : gSite 51 10 := ⟨gML_all 10 (by decide) (by decide) (by decide), gcw_10, by decide +kernel, by decide +kernel⟩
theorem st_51_162 : gSite 51 162 := ⟨gML_all 162 (by decide) (by decide) (by decide), gcw_162, by decide +kernel, by decide +kernel⟩
theorem st_51_164 : gSite 51 164 := ⟨gML_all 164 (by decide) (by decide) (by decide), gcw_164, by decide +kernel, by decide +kernel⟩
theorem st_51_167 : gSite 51 167 := ⟨gML_all 167 (by decide) (by decide) (by decide), gcw_167, by decide +kernel, by decide +kernel⟩
theorem st_51_168 : gSite 51 168 := ⟨gML_all 168 (by decide) (by decide) (by decide), gcw_168, by decide +kernel, by decide +kernel⟩
theorem st_51_50 : gSite 51 50 := ⟨gML_all 50 (by decide) (by decide) (by decide), gcw_50, by decide +kernel, by decide +kernel⟩
theorem st_51_8 : gSite 51 8 := ⟨gML_all 8 (by decide) (by decide) (by decide), gcw_8, by decide +kernel, by decide +kernel⟩
theorem st_52_20 : gSite 52 20 := ⟨gML_all 20 (by decide) (by decide) (by decide), gcw_20, by decide +kernel, by decide +kernel⟩
theorem st_52_21 : gSite 52 21 := ⟨gML_all 21 (by decide) (by decide) (by decide), gcw_21, by decide +kernel, by decide +kernel⟩
theorem st_52_22 : gSite 52 22 := ⟨gML_all 22 (by decide) (by decide) (by decide), gcw_22, by decide +kernel, by decide +kernel⟩
theorem st_52_23 : gSite 52 23 := ⟨gML_all 23 (by decide) (by decide) (by decide), gcw_23, by decide +kernel, by decide +kernel⟩
theorem st_52_53 : gSite 52 53 := ⟨gML_all 53 (by decide) (by decide) (by decide), gcw_53, by decide +kernel, by decide +kernel⟩
theorem st_52_55 : gSite 52 55 := ⟨gML_all 55 (by decide) (by decide) (by decide), gcw_55, by decide +kernel, by decide +kernel⟩
theorem st_52_57 : gSite 52 57 := ⟨gML_all 57 (by decide) (by decide) (by decide), gcw_57, by decide +kernel, by decide +kernel⟩
theorem st_53_159 : gSite 53 159 := ⟨gML_all 159 (by decide) (by decide) (by decide), gcw_159, by decide +kernel, by decide +kernel⟩
theorem st_53_20 : gSite 53 20 := ⟨gML_all 20 (by decide) (by decide) (by decide), gcw_20, by decide +kernel, by decide +kernel⟩
theorem st_53_22 : gSite 53 22 := ⟨gML_all 22 (by decide) (by decide) (by decide), gcw_22, by decide +kernel, by decide +kernel⟩
theorem st_53_54 : gSite 53 54 := ⟨gML_all 54 (by decide) (by decide) (by decide), gcw_54, by decide +kernel, by decide +kernel⟩
theorem st_55_167 : gSite 55 167 := ⟨gML_all 167 (by decide) (by decide) (by decide), gcw_167, by decide +kernel, by decide +kernel⟩
theorem st_55_54 : gSite 55 54 := ⟨gML_all 54 (by decide) (by decide) (by decide), gcw_54, by decide +kernel, by decide +kernel⟩
theorem st_56_172 : gSite 56 172 := ⟨gML_all 172 (by decide) (by decide) (by decide), gcw_172, by decide +kernel, by decide +kernel⟩
theorem st_57_50 : gSite 57 50 := ⟨gML_all 50 (by decide) (by decide) (by decide), gcw_50, by decide +kernel, by decide +kernel⟩
theorem st_57_56 : gSite 57 56 := ⟨gML_all 56 (by decide) (by decide) (by decide), gcw_56, by decide +kernel, by decide +kernel⟩
theorem st_58_161 : gSite 58 161 := ⟨gML_all 161 (by decide) (by decide) (by decide), gcw_161, by decide +kernel, by decide +kernel⟩
theorem st_58_162 : gSite 58 162 := ⟨gML_all 162 (by decide) (by decide) (by decide), gcw_162, by decide +kernel, by decide +kernel⟩
theorem st_58_163 : gSite 58 163 := ⟨gML_all 163 (by decide) (by decide) (by decide), gcw_163, by decide +kernel, by decide +kernel⟩
theorem st_58_20 : gSite 58 20 := ⟨gML_all 20 (by decide) (by decide) (by decide), gcw_20, by decide +kernel, by decide +kernel⟩
theorem st_58_21 : gSite 58 21 := ⟨gML_all 21 (by decide) (by decide) (by decide), gcw_21, by decide +kernel, by decide +kernel⟩
theorem st_58_22 : gSite 58 22 := ⟨gML_all 22 (by decide) (by decide) (by decide), gcw_22, by decide +kernel, by decide +kernel⟩
theorem st_58_23 : gSite 58 23 := ⟨gML_all 23 (by decide) (by decide) (by decide), gcw_23, by decide +kernel, by decide +kernel⟩
theorem st_58_57 : gSite 58 57 := ⟨gML_all 57 (by decide) (by decide) (by decide), gcw_57, by decide +kernel, by decide +kernel⟩
theorem st_58_59 : gSite 58 59 := ⟨gML_all 59 (by decide) (by decide) (by decide), gcw_59, by decide +kernel, by decide +kernel⟩
theorem st_58_60 : gSite 58 60 := ⟨gML_all 60 (by decide) (by decide) (by decide), gcw_60, by decide +kernel, by decide +kernel⟩
theorem st_59_167 : gSite 59 167 := ⟨gML_all 167 (by decide) (by decide) (by decide), gcw_167, by decide +kernel, by decide +kernel⟩
theorem st_59_169 : gSite 59 169 := ⟨gML_all 169 (by decide) (by decide) (by decide), gcw_169, by decide +kernel, by decide +kernel⟩
theorem st_5_159 : gSite 5 159 := ⟨gML_all 159 (by decide) (by decide) (by decide), gcw_159, by decide +kernel, by decide +kernel⟩
theorem st_60_117 : gSite 60 117 := ⟨gML_all 117 (by decide) (by decide) (by decide), gcw_117, by decide +kernel, by decide +kernel⟩
theorem st_60_167 : gSite 60 167 := ⟨gML_all 167 (by decide) (by decide) (by decide), gcw_167, by decide +kernel, by decide +kernel⟩
theorem st_60_50 : gSite 60 50 := ⟨gML_all 50 (by decide) (by decide) (by decide), gcw_50, by decide +kernel, by decide +kernel⟩
theorem st_60_56 : gSite 60 56 := ⟨gML_all 56 (by decide) (by decide) (by decide), gcw_56, by decide +kernel, by decide +kernel⟩
theorem st_60_65 : gSite 60 65 := ⟨gML_all 65 (by decide) (by decide) (by decide), gcw_65, by decide +kernel, by decide +kernel⟩
theorem st_60_66 : gSite 60 66 := ⟨gML_all 66 (by decide) (by decide) (by decide), gcw_66, by decide +kernel, by decide +kernel⟩
theorem st_60_67 : gSite 60 67 := ⟨gML_all 67 (by decide) (by decide) (by decide), gcw_67, by decide +kernel, by decide +kernel⟩
theorem st_61_176 : gSite 61 176 := ⟨gML_all 176 (by decide) (by decide) (by decide), gcw_176, by decide +kernel, by decide +kernel⟩
theorem st_61_20 : gSite 61 20 := ⟨gML_all 20 (by decide) (by decide) (by decide), gcw_20, by decide +kernel, by decide +kernel⟩
theorem st_61_21 : gSite 61 21 := ⟨gML_all 21 (by decide) (by decide) (by decide), gcw_21, by decide +kernel, by decide +kernel⟩
theorem st_61_23 : gSite 61 23 := ⟨gML_all 23 (by decide) (by decide) (by decide), gcw_23, by decide +kernel, by decide +kernel⟩
theorem st_62_120 : gSite 62 120 := ⟨gML_all 120 (by decide) (by decide) (by decide), gcw_120, by decide +kernel, by decide +kernel⟩
theorem st_62_174 : gSite 62 174 := ⟨gML_all 174 (by decide) (by decide) (by decide), gcw_174, by decide +kernel, by decide +kernel⟩
theorem st_62_177 : gSite 62 177 := ⟨gML_all 177 (by decide) (by decide) (by decide), gcw_177, by decide +kernel, by decide +kernel⟩
theorem st_62_179 : gSite 62 179 := ⟨gML_all 179 (by decide) (by decide) (by decide), gcw_179, by decide +kernel, by decide +kernel⟩
theorem st_62_20 : gSite 62 20 := ⟨gML_all 20 (by decide) (by decide) (by decide), gcw_20, by decide +kernel, by decide +kernel⟩
theorem st_62_21 : gSite 62 21 := ⟨gML_all 21 (by decide) (by decide) (by decide), gcw_21, by decide +kernel, by decide +kernel⟩
theorem st_62_22 : gSite 62 22 := ⟨gML_all 22 (by decide) (by decide) (by decide), gcw_22, by decide +kernel, by decide +kernel⟩
theorem st_62_23 : gSite 62 23 := ⟨gML_all 23 (by decide) (by decide) (by decide), gcw_23, by decide +kernel, by decide +kernel⟩
theorem st_66_65 : gSite 66 65 := ⟨gML_all 65 (by decide) (by decide) (by decide), gcw_65, by decide +kernel, by decide +kernel⟩
theorem st_67_65 : gSite 67 65 := ⟨gML_all 65 (by decide) (by decide) (by decide), gcw_65, by decide +kernel, by decide +kernel⟩
theorem st_68_65 : gSite 68 65 := ⟨gML_all 65 (by decide) (by decide) (by decide), gcw_65, by decide +kernel, by decide +kernel⟩
theorem st_69_65 : gSite 69 65 := ⟨gML_all 65 (by decide) (by decide) (by decide), gcw_65, by decide +kernel, by decide +kernel⟩
theorem st_71_70 : gSite 71 70 := ⟨gML_all 70 (by decide) (by decide) (by decide), gcw_70, by decide +kernel, by decide +kernel⟩
theorem st_72_66 : gSite 72 66 := ⟨gML_all 66 (by decide) (by decide) (by decide), gcw_66, by decide +kernel, by decide +kernel⟩
theorem st_72_78 : gSite 72 78 := ⟨gML_all 78 (by decide) (by decide) (by decide), gcw_78, by decide +kernel, by decide +kernel⟩
theorem st_76_75 : gSite 76 75 := ⟨gML_all 75 (by decide) (by decide) (by decide), gcw_75, by decide +kernel, by decide +kernel⟩
theorem st_77_75 : gSite 77 75 := ⟨gML_all 75 (by decide) (by decide) (by decide), gcw_75, by decide +kernel, by decide +kernel⟩
theorem st_84_80 : gSite 84 80 := ⟨gML_all 80 (by decide) (by decide) (by decide), gcw_80, by decide +kernel, by decide +kernel⟩
theorem st_85_80 : gSite 85 80 := ⟨gML_all 80 (by decide) (by decide) (by decide), gcw_80, by decide +kernel, by decide +kernel⟩
theorem st_86_64 : gSite 86 64 := ⟨gML_all 64 (by decide) (by decide) (by decide), gcw_64, by decide +kernel, by decide +kernel⟩
theorem st_86_65 : gSite 86 65 := ⟨gML_all 65 (by decide) (by decide) (by decide), gcw_65, by decide +kernel, by decide +kernel⟩
theorem st_86_66 : gSite 86 66 := ⟨gML_all 66 (by decide) (by decide) (by decide), gcw_66, by decide +kernel, by decide +kernel⟩
theorem st_86_71 : gSite 86 71 := ⟨gML_all 71 (by decide) (by decide) (by decide), gcw_71, by decide +kernel, by decide +kernel⟩
theorem st_86_72 : gSite 86 72 := ⟨gML_all 72 (by decide) (by decide) (by decide), gcw_72, by decide +kernel, by decide +kernel⟩
theorem st_88_159 : gSite 88 159 := ⟨gML_all 159 (by decide) (by decide) (by decide), gcw_159, by decide +kernel, by decide +kernel⟩
theorem st_88_161 : gSite 88 161 := ⟨gML_all 161 (by decide) (by decide) (by decide), gcw_161, by decide +kernel, by decide +kernel⟩
theorem st_88_162 : gSite 88 162 := ⟨gML_all 162 (by decide) (by decide) (by decide), gcw_162, by decide +kernel, by decide +kernel⟩
theorem st_88_76 : gSite 88 76 := ⟨gML_all 76 (by decide) (by decide) (by decide), gcw_76, by decide +kernel, by decide +kernel⟩
theorem st_88_89 : gSite 88 89 := ⟨gML_all 89 (by decide) (by decide) (by decide), gcw_89, by decide +kernel, by decide +kernel⟩
theorem st_88_90 : gSite 88 90 := ⟨gML_all 90 (by decide) (by decide) (by decide), gcw_90, by decide +kernel, by decide +kernel⟩
theorem st_88_91 : gSite 88 91 := ⟨gML_all 91 (by decide) (by decide) (by decide), gcw_91, by decide +kernel, by decide +kernel⟩
theorem st_89_75 : gSite 89 75 := ⟨gML_all 75 (by decide) (by decide) (by decide), gcw_75, by decide +kernel, by decide +kernel⟩
theorem st_89_76 : gSite 89 76 := ⟨gML_all 76 (by decide) (by decide) (by decide), gcw_76, by decide +kernel, by decide +kernel⟩
theorem st_89_78 : gSite 89 78 := ⟨gML_all 78 (by decide) (by decide) (by decide), gcw_78, by decide +kernel, by decide +kernel⟩
theorem st_91_75 : gSite 91 75 := ⟨gML_all 75 (by decide) (by decide) (by decide), gcw_75, by decide +kernel, by decide +kernel⟩
theorem st_91_76 : gSite 91 76 := ⟨gML_all 76 (by decide) (by decide) (by decide), gcw_76, by decide +kernel, by decide +kernel⟩
theorem st_91_92 : gSite 91 92 := ⟨gML_all 92 (by decide) (by decide) (by decide), gcw_92, by decide +kernel, by decide +kernel⟩
theorem st_91_94 : gSite 91 94 := ⟨gML_all 94 (by decide) (by decide) (by decide), gcw_94, by decide +kernel, by decide +kernel⟩
theorem st_92_75 : gSite 92 75 := ⟨gML_all 75 (by decide) (by decide) (by decide), gcw_75, by decide +kernel, by decide +kernel⟩
theorem st_92_77 : gSite 92 77 := ⟨gML_all 77 (by decide) (by decide) (by decide), gcw_77, by decide +kernel, by decide +kernel⟩
theorem st_92_93 : gSite 92 93 := ⟨gML_all 93 (by decide) (by decide) (by decide), gcw_93, by decide +kernel, by decide +kernel⟩
theorem st_94_75 : gSite 94 75 := ⟨gML_all 75 (by decide) (by decide) (by decide), gcw_75, by decide +kernel, by decide +kernel⟩
theorem st_94_76 : gSite 94 76 := ⟨gML_all 76 (by decide) (by decide) (by decide), gcw_76, by decide +kernel, by decide +kernel⟩
theorem st_94_80 : gSite 94 80 := ⟨gML_all 80 (by decide) (by decide) (by decide), gcw_80, by decide +kernel, by decide +kernel⟩
theorem st_98_100 : gSite 98 100 := ⟨gML_all 100 (by decide) (by decide) (by decide), gcw_100, by decide +kernel, by decide +kernel⟩
theorem st_98_99 : gSite 98 99 := ⟨gML_all 99 (by decide) (by decide) (by decide), gcw_99, by decide +kernel, by decide +kernel⟩
theorem st_99_65 : gSite 99 65 := ⟨gML_all 65 (by decide) (by decide) (by decide), gcw_65, by decide +kernel, by decide +kernel⟩
theorem st_9_8 : gSite 9 8 := ⟨gML_all 8 (by decide) (by decide) (by decide), gcw_8, by decide +kernel, by decide +kernel⟩
theorem xl_2_7 : (2 * 1000 + 7, 211) ∈ gXL := by decide +kernel
theorem xl_6_185 : (6 * 1000 + 185, 1751) ∈ gXL := by decide +kernel
theorem yl_11_153 : (11 * 1000 + 153, 897) ∈ gYL := by decide +kernel
theorem yl_1_147 : (1 * 1000 + 147, 1495) ∈ gYL := by decide +kernel
theorem yl_2_43 : (2 * 1000 + 43, 1110) ∈ gYL := by decide +kernel
theorem yl_5_52 : (5 * 1000 + 52, 1279) ∈ gYL := by decide +kernel
theorem yl_6_169 : (6 * 1000 + 169, 1756) ∈ gYL := by decide +kernel
