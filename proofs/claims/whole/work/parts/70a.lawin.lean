theorem zMemR {big : List Cond} (ws : List Cond) (ps : List Nat) (hp : ws = ps.filterMap (fun i => big[i]?)) : ∀ w ∈ ws, w ∈ big := by
  intro w hw
  rw [hp] at hw
  obtain ⟨i, -, hi⟩ := List.mem_filterMap.mp hw
  exact List.mem_of_getElem? hi
set_option maxRecDepth 100000 in
theorem lin_wsL_law_r1 : ∀ w ∈ wsL_law_r1, w ∈ lw_tbl := zMemR wsL_law_r1 [112, 113, 93, 1042, 1043, 104, 1685, 114, 115, 116, 117, 118, 119, 120, 121, 94, 370, 371, 372, 373, 212, 213, 96, 374] (by decide +kernel)
set_option maxRecDepth 100000 in
theorem lin_wsL_law_r2 : ∀ w ∈ wsL_law_r2, w ∈ lw_tbl := zMemR wsL_law_r2 [240, 241, 97, 375, 251, 252, 98, 376, 267, 268, 99, 377, 280, 281, 100, 378, 295, 296, 101, 379, 312, 313, 102, 380] (by decide +kernel)
set_option maxRecDepth 100000 in
theorem lin_wsL_law_r3 : ∀ w ∈ wsL_law_r3, w ∈ lw_tbl := zMemR wsL_law_r3 [343, 344, 103, 381, 122, 123, 124, 125, 129, 210, 134, 137, 139, 146, 150, 154, 158, 211, 163, 167, 170, 173, 176, 178] (by decide +kernel)
set_option maxRecDepth 100000 in
theorem lin_wsL_law_r4 : ∀ w ∈ wsL_law_r4, w ∈ lw_tbl := zMemR wsL_law_r4 [126, 127, 95, 128, 215, 216, 217, 239, 218, 219, 221, 223, 224, 225, 243, 244, 245, 246, 254, 255, 256, 257, 258, 259] (by decide +kernel)
set_option maxRecDepth 100000 in
theorem lin_wsL_law_r5 : ∀ w ∈ wsL_law_r5, w ∈ lw_tbl := zMemR wsL_law_r5 [270, 271, 272, 273, 274, 283, 284, 285, 286, 289, 298, 299, 300, 301, 303, 305, 315, 316, 317, 319, 321, 318, 323, 325] (by decide +kernel)
set_option maxRecDepth 100000 in
theorem lin_wsL_law_r6 : ∀ w ∈ wsL_law_r6, w ∈ lw_tbl := zMemR wsL_law_r6 [326, 328, 346, 347, 348, 349, 351, 353, 354, 355, 356, 1044, 1045, 1046, 1047, 1049, 1050, 1052, 1054, 1055, 1056, 1057, 1068, 1069] (by decide +kernel)
set_option maxRecDepth 100000 in
theorem lin_wsL_law_r7 : ∀ w ∈ wsL_law_r7, w ∈ lw_tbl := zMemR wsL_law_r7 [1070, 1212, 1072, 1073, 1079, 1080, 1081, 1048, 1082, 1083, 1084, 1086, 1087, 1088, 1089, 1090, 1091, 1092, 1096, 1100, 1102, 407, 408, 409] (by decide +kernel)
set_option maxRecDepth 100000 in
theorem lin_wsL_law_r8 : ∀ w ∈ wsL_law_r8, w ∈ lw_tbl := zMemR wsL_law_r8 [410, 220, 411, 412, 413, 414, 1213, 1214, 1215, 1216, 1058, 1220, 1217, 1218, 1219, 415, 416, 417, 418, 222, 179, 306, 142, 419] (by decide +kernel)
set_option maxRecDepth 100000 in
theorem lin_wsL_law_r9 : ∀ w ∈ wsL_law_r9, w ∈ lw_tbl := zMemR wsL_law_r9 [420, 421, 422, 423, 425, 0, 426, 427, 428, 429, 430, 432, 1, 433, 435, 437, 2, 438, 439, 440, 441, 105, 442, 1686] (by decide +kernel)
set_option maxRecDepth 100000 in
theorem lin_wsL_law_r10 : ∀ w ∈ wsL_law_r10, w ∈ lw_tbl := zMemR wsL_law_r10 [443, 444, 445, 446, 447, 1687, 449, 450, 451, 452, 453, 454, 455, 456, 457, 458, 106, 459, 460, 461, 462, 463, 465, 466] (by decide +kernel)
set_option maxRecDepth 100000 in
theorem lin_wsL_law_r11 : ∀ w ∈ wsL_law_r11, w ∈ lw_tbl := zMemR wsL_law_r11 [107, 467, 468, 469, 108, 470, 471, 472, 473, 474, 475, 476, 477, 478, 479, 480, 481, 483, 485, 487, 489, 3, 490, 491] (by decide +kernel)
set_option maxRecDepth 100000 in
theorem lin_wsL_law_r12 : ∀ w ∈ wsL_law_r12, w ∈ lw_tbl := zMemR wsL_law_r12 [492, 493, 494, 495, 497, 4, 498, 500, 502, 5, 503, 143, 132, 504, 505, 506, 507, 508, 509, 109, 510, 511, 512, 513] (by decide +kernel)
set_option maxRecDepth 100000 in
theorem lin_wsL_law_r13 : ∀ w ∈ wsL_law_r13, w ∈ lw_tbl := zMemR wsL_law_r13 [514, 515, 516, 517, 518, 520, 6, 521, 156, 161, 165, 522, 524, 7, 525, 530, 532, 8, 533, 136, 536, 538, 9, 539] (by decide +kernel)
set_option maxRecDepth 100000 in
theorem lin_wsL_law_r14 : ∀ w ∈ wsL_law_r14, w ∈ lw_tbl := zMemR wsL_law_r14 [168, 541, 542, 543, 544, 546, 548, 10, 549, 550, 551, 552, 553, 554, 556, 555, 110, 1221, 1222, 1223, 1224, 1061, 1064, 1060] (by decide +kernel)
set_option maxRecDepth 100000 in
theorem lin_wsL_law_r15 : ∀ w ∈ wsL_law_r15, w ∈ lw_tbl := zMemR wsL_law_r15 [1065, 1066, 1051, 1067, 1053, 1225, 1227, 26, 1228, 1059, 1062, 1063, 1239, 1240, 1241, 1229, 1231, 27, 1232, 1233, 1234, 1235, 1236, 1237] (by decide +kernel)
set_option maxRecDepth 100000 in
theorem lin_wsL_law_r16 : ∀ w ∈ wsL_law_r16, w ∈ lw_tbl := zMemR wsL_law_r16 [1238, 1242, 1244, 28, 1245, 1246, 1263, 1275, 1281, 1291, 1247, 1249, 29, 1250, 1251, 1253, 30, 1254, 1255, 1257, 31, 1258, 1259, 1261] (by decide +kernel)
set_option maxRecDepth 100000 in
theorem lin_wsL_law_r17 : ∀ w ∈ wsL_law_r17, w ∈ lw_tbl := zMemR wsL_law_r17 [32, 1262, 1264, 1266, 33, 1267, 1272, 1273, 1274, 1268, 1270, 34, 1271, 1276, 1278, 35, 1279, 1280, 1282, 1284, 36, 1285, 1286, 1287] (by decide +kernel)
set_option maxRecDepth 100000 in
theorem lin_wsL_law_r18 : ∀ w ∈ wsL_law_r18, w ∈ lw_tbl := zMemR wsL_law_r18 [1289, 37, 1290, 1292, 1294, 38, 1295, 1296, 1298, 39, 1299, 1085, 557, 558, 559, 560, 561, 1300, 1301, 1302, 1303, 562, 563, 564] (by decide +kernel)
set_option maxRecDepth 100000 in
theorem lin_wsL_law_r19 : ∀ w ∈ wsL_law_r19, w ∈ lw_tbl := zMemR wsL_law_r19 [565, 155, 160, 164, 566, 568, 11, 569, 570, 571, 572, 573, 574, 575, 1304, 1305, 1306, 1307, 1308, 1310, 40, 1311, 1312, 1314] (by decide +kernel)
set_option maxRecDepth 100000 in
theorem lin_wsL_law_r20 : ∀ w ∈ wsL_law_r20, w ∈ lw_tbl := zMemR wsL_law_r20 [41, 1315, 1316, 1318, 42, 1319, 1320, 1322, 43, 1323, 576, 577, 578, 579, 148, 152, 580, 581, 582, 583, 1324, 1325, 1326, 1327] (by decide +kernel)
set_option maxRecDepth 100000 in
theorem lin_wsL_law_r21 : ∀ w ∈ wsL_law_r21, w ∈ lw_tbl := zMemR wsL_law_r21 [1328, 1330, 44, 1331, 584, 585, 586, 587, 135, 1332, 1333, 1334, 1335, 588, 589, 590, 591, 169, 592, 593, 594, 595, 596, 597] (by decide +kernel)
set_option maxRecDepth 100000 in
theorem lin_wsL_law_r22 : ∀ w ∈ wsL_law_r22, w ∈ lw_tbl := zMemR wsL_law_r22 [598, 599, 600, 1336, 1337, 1338, 1339, 1340, 1342, 45, 1343, 1344, 1346, 46, 1347, 601, 602, 603, 604, 172, 175, 177, 605, 606] (by decide +kernel)
set_option maxRecDepth 100000 in
theorem lin_wsL_law_r23 : ∀ w ∈ wsL_law_r23, w ∈ lw_tbl := zMemR wsL_law_r23 [607, 608, 1348, 1349, 1350, 1351, 1352, 1354, 47, 1355, 609, 610, 611, 612, 1356, 1357, 1358, 1359, 613, 614, 615, 616, 617, 618] (by decide +kernel)
set_option maxRecDepth 100000 in
theorem lin_wsL_law_r24 : ∀ w ∈ wsL_law_r24, w ∈ lw_tbl := zMemR wsL_law_r24 [619, 620, 621, 623, 12, 624, 625, 626, 627, 628, 629, 630, 111, 631, 632, 633, 634, 1360, 1361, 1362, 1363, 1364, 1366, 48] (by decide +kernel)
set_option maxRecDepth 100000 in
theorem lin_wsL_law_r25 : ∀ w ∈ wsL_law_r25, w ∈ lw_tbl := zMemR wsL_law_r25 [1367, 1368, 1370, 49, 1371, 1372, 1374, 50, 1375, 1376, 1377, 1378, 635, 636, 637, 638, 639, 641, 13, 642, 643, 644, 645, 646] (by decide +kernel)
set_option maxRecDepth 100000 in
theorem lin_wsL_law_r26 : ∀ w ∈ wsL_law_r26, w ∈ lw_tbl := zMemR wsL_law_r26 [647, 648, 649, 650, 651, 140, 147, 151, 652, 653, 654, 655, 656, 657, 658, 1379, 1380, 1381, 1382, 1383, 1385, 51, 1386, 1387] (by decide +kernel)
set_option maxRecDepth 100000 in
theorem lin_wsL_law_r27 : ∀ w ∈ wsL_law_r27, w ∈ lw_tbl := zMemR wsL_law_r27 [1389, 52, 1390, 1391, 1393, 53, 1394, 659, 660, 661, 662, 663, 664, 665, 666, 667, 668, 669, 670, 671, 672, 673, 674, 675] (by decide +kernel)
set_option maxRecDepth 100000 in
theorem lin_wsL_law_r28 : ∀ w ∈ wsL_law_r28, w ∈ lw_tbl := zMemR wsL_law_r28 [1395, 1396, 1397, 1398, 1071, 1399, 1400, 1401, 1402, 1404, 54, 1405, 676, 677, 678, 679, 680, 682, 14, 683, 684, 685, 686, 687] (by decide +kernel)
set_option maxRecDepth 100000 in
theorem lin_wsL_law_r29 : ∀ w ∈ wsL_law_r29, w ∈ lw_tbl := zMemR wsL_law_r29 [688, 689, 690, 691, 692, 693, 694, 695, 696, 141, 697, 698, 699, 700, 701, 702, 703, 705, 15, 706, 159, 707, 708, 709] (by decide +kernel)
set_option maxRecDepth 100000 in
theorem lin_wsL_law_r30 : ∀ w ∈ wsL_law_r30, w ∈ lw_tbl := zMemR wsL_law_r30 [710, 711, 712, 713, 714, 715, 716, 717, 1406, 1407, 1408, 1409, 1074, 1075, 1410, 1412, 55, 1413, 1414, 1416, 56, 1417, 1418, 1420] (by decide +kernel)
set_option maxRecDepth 100000 in
theorem lin_wsL_law_r31 : ∀ w ∈ wsL_law_r31, w ∈ lw_tbl := zMemR wsL_law_r31 [57, 1421, 1422, 1424, 58, 1425, 1426, 1428, 59, 1429, 1430, 1432, 60, 1433, 1434, 1436, 61, 1437, 1438, 1440, 62, 1441, 718, 719] (by decide +kernel)
set_option maxRecDepth 100000 in
theorem lin_wsL_law_r32 : ∀ w ∈ wsL_law_r32, w ∈ lw_tbl := zMemR wsL_law_r32 [720, 721, 722, 723, 724, 725, 726, 727, 1442, 1443, 1444, 1445, 728, 729, 730, 731, 138, 1446, 1447, 1448, 1449, 732, 733, 734] (by decide +kernel)
set_option maxRecDepth 100000 in
theorem lin_wsL_law_r33 : ∀ w ∈ wsL_law_r33, w ∈ lw_tbl := zMemR wsL_law_r33 [735, 736, 737, 738, 739, 740, 741, 742, 743, 1450, 1451, 1452, 1453, 744, 745, 746, 747, 748, 749, 750, 751, 752, 753, 754] (by decide +kernel)
set_option maxRecDepth 100000 in
theorem lin_wsL_law_r34 : ∀ w ∈ wsL_law_r34, w ∈ lw_tbl := zMemR wsL_law_r34 [755, 145, 166, 157, 756, 758, 16, 759, 149, 153, 1454, 1455, 1456, 1457, 1076, 1077, 1078, 1458, 1460, 63, 1461, 1462, 1464, 64] (by decide +kernel)
set_option maxRecDepth 100000 in
theorem lin_wsL_law_r35 : ∀ w ∈ wsL_law_r35, w ∈ lw_tbl := zMemR wsL_law_r35 [1465, 760, 761, 762, 763, 247, 764, 765, 766, 1466, 1467, 1468, 1469, 767, 768, 769, 770, 133, 771, 772, 773, 774, 775, 776] (by decide +kernel)
set_option maxRecDepth 100000 in
theorem lin_wsL_law_r36 : ∀ w ∈ wsL_law_r36, w ∈ lw_tbl := zMemR wsL_law_r36 [777, 778, 779, 780, 781, 782, 783, 784, 785, 787, 17, 788, 789, 1470, 1471, 1472, 1473, 1474, 1476, 65, 1477, 1478, 1480, 66] (by decide +kernel)
set_option maxRecDepth 100000 in
theorem lin_wsL_law_r37 : ∀ w ∈ wsL_law_r37, w ∈ lw_tbl := zMemR wsL_law_r37 [1481, 1482, 1484, 67, 1485, 1486, 1488, 68, 1489, 790, 791, 792, 793, 794, 795, 796, 797, 1490, 1491, 1492, 1493, 798, 799, 800] (by decide +kernel)
set_option maxRecDepth 100000 in
theorem lin_wsL_law_r38 : ∀ w ∈ wsL_law_r38, w ∈ lw_tbl := zMemR wsL_law_r38 [801, 288, 802, 803, 804, 805, 130, 806, 807, 808, 809, 144, 810, 811, 812, 813, 814, 815, 1494, 1495, 1496, 1497, 1498, 1500] (by decide +kernel)
set_option maxRecDepth 100000 in
theorem lin_wsL_law_r39 : ∀ w ∈ wsL_law_r39, w ∈ lw_tbl := zMemR wsL_law_r39 [69, 1501, 1502, 1504, 70, 1505, 816, 817, 818, 819, 820, 821, 822, 823, 1506, 1507, 1508, 1509, 824, 825, 826, 827, 1510, 1511] (by decide +kernel)
set_option maxRecDepth 100000 in
theorem lin_wsL_law_r40 : ∀ w ∈ wsL_law_r40, w ∈ lw_tbl := zMemR wsL_law_r40 [1512, 1513, 828, 829, 830, 831, 832, 833, 834, 835, 180, 836, 162, 1514, 1515, 1516, 1517, 1518, 837, 838, 839, 840, 841, 842] (by decide +kernel)
set_option maxRecDepth 100000 in
theorem lin_wsL_law_r41 : ∀ w ∈ wsL_law_r41, w ∈ lw_tbl := zMemR wsL_law_r41 [843, 844, 845, 846, 847, 848, 849, 851, 18, 852, 853, 854, 856, 19, 857, 858, 1519, 1520, 1521, 1522, 1523, 1525, 71, 1526] (by decide +kernel)
set_option maxRecDepth 100000 in
theorem lin_wsL_law_r42 : ∀ w ∈ wsL_law_r42, w ∈ lw_tbl := zMemR wsL_law_r42 [859, 860, 861, 862, 863, 864, 865, 866, 287, 867, 868, 869, 870, 871, 131, 872, 873, 874, 875, 876, 1527, 1528, 1529, 1530] (by decide +kernel)
set_option maxRecDepth 100000 in
theorem lin_wsL_law_r43 : ∀ w ∈ wsL_law_r43, w ∈ lw_tbl := zMemR wsL_law_r43 [1531, 1533, 72, 1534, 1535, 1537, 73, 1538, 877, 878, 879, 880, 304, 881, 882, 883, 884, 1539, 1540, 1541, 1542, 1543, 1545, 74] (by decide +kernel)
set_option maxRecDepth 100000 in
theorem lin_wsL_law_r44 : ∀ w ∈ wsL_law_r44, w ∈ lw_tbl := zMemR wsL_law_r44 [1546, 885, 886, 887, 888, 1547, 1548, 1549, 1550, 889, 890, 891, 892, 893, 894, 895, 896, 1551, 1552, 1553, 1554, 897, 898, 899] (by decide +kernel)
set_option maxRecDepth 100000 in
theorem lin_wsL_law_r45 : ∀ w ∈ wsL_law_r45, w ∈ lw_tbl := zMemR wsL_law_r45 [900, 1555, 1556, 1557, 1558, 901, 902, 903, 904, 1559, 1560, 1561, 1562, 905, 906, 907, 908, 909, 910, 911, 912, 913, 914, 915] (by decide +kernel)
set_option maxRecDepth 100000 in
theorem lin_wsL_law_r46 : ∀ w ∈ wsL_law_r46, w ∈ lw_tbl := zMemR wsL_law_r46 [916, 917, 918, 1563, 1564, 1565, 1566, 919, 920, 921, 922, 322, 324, 923, 924, 925, 926, 927, 928, 929, 1567, 1568, 1569, 1570] (by decide +kernel)
set_option maxRecDepth 100000 in
theorem lin_wsL_law_r47 : ∀ w ∈ wsL_law_r47, w ∈ lw_tbl := zMemR wsL_law_r47 [1571, 1572, 1573, 1574, 1576, 75, 1577, 930, 931, 932, 933, 934, 935, 936, 937, 938, 1578, 1579, 1580, 1581, 939, 940, 941, 942] (by decide +kernel)
set_option maxRecDepth 100000 in
theorem lin_wsL_law_r48 : ∀ w ∈ wsL_law_r48, w ∈ lw_tbl := zMemR wsL_law_r48 [320, 943, 944, 945, 1582, 1583, 1584, 1585, 946, 947, 948, 949, 1586, 1587, 1588, 1589, 950, 951, 952, 953, 954, 955, 956, 957] (by decide +kernel)
set_option maxRecDepth 100000 in
theorem lin_wsL_law_r49 : ∀ w ∈ wsL_law_r49, w ∈ lw_tbl := zMemR wsL_law_r49 [958, 959, 960, 961, 962, 963, 964, 965, 1590, 1591, 1592, 1593, 1594, 1596, 76, 1597, 966, 967, 968, 969, 329, 327, 970, 971] (by decide +kernel)
set_option maxRecDepth 100000 in
theorem lin_wsL_law_r50 : ∀ w ∈ wsL_law_r50, w ∈ lw_tbl := zMemR wsL_law_r50 [972, 973, 974, 975, 976, 977, 978, 979, 980, 981, 983, 984, 985, 1598, 1599, 1600, 1601, 1602, 1604, 77, 1605, 1606, 1607, 1608] (by decide +kernel)
set_option maxRecDepth 100000 in
theorem lin_wsL_law_r51 : ∀ w ∈ wsL_law_r51, w ∈ lw_tbl := zMemR wsL_law_r51 [986, 987, 988, 989, 990, 991, 992, 993, 994, 995, 996, 997, 171, 174, 998, 1000, 20, 1001, 1002, 1004, 21, 1005, 1006, 1008] (by decide +kernel)
set_option maxRecDepth 100000 in
theorem lin_wsL_law_r52 : ∀ w ∈ wsL_law_r52, w ∈ lw_tbl := zMemR wsL_law_r52 [22, 1009, 1010, 1012, 23, 1013, 1014, 1016, 24, 1017, 1018, 1020, 25, 1021, 1609, 1610, 1611, 1612, 1097, 1093, 1094, 1095, 1098, 1613] (by decide +kernel)
set_option maxRecDepth 100000 in
theorem lin_wsL_law_r53 : ∀ w ∈ wsL_law_r53, w ∈ lw_tbl := zMemR wsL_law_r53 [1615, 78, 1616, 1617, 1619, 79, 1620, 1621, 1623, 80, 1624, 1625, 1627, 81, 1628, 1629, 1631, 82, 1632, 1633, 1635, 83, 1636, 1637] (by decide +kernel)
set_option maxRecDepth 100000 in
theorem lin_wsL_law_r54 : ∀ w ∈ wsL_law_r54, w ∈ lw_tbl := zMemR wsL_law_r54 [1639, 84, 1640, 1641, 1643, 85, 1644, 1645, 1647, 86, 1648, 1649, 1651, 87, 1652, 1653, 1655, 88, 1656, 1657, 1659, 89, 1660, 1022] (by decide +kernel)
set_option maxRecDepth 100000 in
theorem lin_wsL_law_r55 : ∀ w ∈ wsL_law_r55, w ∈ lw_tbl := zMemR wsL_law_r55 [1023, 1024, 1025, 352, 350, 1661, 1662, 1663, 1664, 1026, 1027, 1028, 1029, 1030, 1031, 1032, 1033, 1665, 1666, 1667, 1668, 1034, 1035, 1036] (by decide +kernel)
set_option maxRecDepth 100000 in
theorem lin_wsL_law_r56 : ∀ w ∈ wsL_law_r56, w ∈ lw_tbl := zMemR wsL_law_r56 [1037, 1669, 1670, 1671, 1672, 1099, 1673, 1675, 90, 1676, 1101, 1677, 1679, 91, 1680, 1038, 1039, 1040, 1041, 1681, 1682, 1683, 1684] (by decide +kernel)
set_option maxRecDepth 100000 in
theorem lin_wsX90 : ∀ w ∈ wsX90, w ∈ lw_tbl := zMemR wsX90 [382, 384, 386, 388, 390, 392, 394, 396, 398, 400, 402, 404] (by decide +kernel)
set_option maxRecDepth 100000 in
theorem lin_wsX100 : ∀ w ∈ wsX100, w ∈ lw_tbl := zMemR wsX100 [1103, 1105, 1107, 1109, 1111, 1113, 1115, 1117, 1119, 1121, 1123, 1125, 1127, 1129, 1131, 1133, 1135, 1137, 1139, 1141, 1143, 1145, 1147, 1149, 1151, 1153, 1155, 1157, 1159, 1161, 1163, 1165, 1167, 1169, 1171, 1173, 1175, 1177, 1179, 1181, 1183, 1185, 1187, 1189, 1191, 1193, 1195, 1197, 1199, 1201, 1203, 1205, 1207, 1209] (by decide +kernel)
set_option maxRecDepth 100000 in
theorem lin_wsX80 : ∀ w ∈ wsX80, w ∈ lw_tbl := zMemR wsX80 [181, 183, 185, 187, 189, 191, 193, 195, 197, 199, 201, 203, 205, 207] (by decide +kernel)
set_option maxRecDepth 100000 in
theorem lin_wsX70 : ∀ w ∈ wsX70, w ∈ lw_tbl := zMemR wsX70 [226, 228, 230, 232, 234, 236] (by decide +kernel)
set_option maxRecDepth 100000 in
theorem lin_wsX30 : ∀ w ∈ wsX30, w ∈ lw_tbl := zMemR wsX30 [248] (by decide +kernel)
set_option maxRecDepth 100000 in
theorem lin_wsX60 : ∀ w ∈ wsX60, w ∈ lw_tbl := zMemR wsX60 [260, 262, 264] (by decide +kernel)
set_option maxRecDepth 100000 in
theorem lin_wsX40 : ∀ w ∈ wsX40, w ∈ lw_tbl := zMemR wsX40 [275, 277] (by decide +kernel)
set_option maxRecDepth 100000 in
theorem lin_wsX10 : ∀ w ∈ wsX10, w ∈ lw_tbl := zMemR wsX10 [290, 292] (by decide +kernel)
set_option maxRecDepth 100000 in
theorem lin_wsX50 : ∀ w ∈ wsX50, w ∈ lw_tbl := zMemR wsX50 [307, 309] (by decide +kernel)
set_option maxRecDepth 100000 in
theorem lin_wsX20 : ∀ w ∈ wsX20, w ∈ lw_tbl := zMemR wsX20 [330, 332, 334, 336, 338, 340] (by decide +kernel)
set_option maxRecDepth 100000 in
theorem lin_wsX00 : ∀ w ∈ wsX00, w ∈ lw_tbl := zMemR wsX00 [357, 359, 361, 363, 365, 367] (by decide +kernel)
theorem wsL_law_in : ∀ w ∈ wsL_law, w ∈ lw_tbl := List.forall_mem_append.mpr ⟨List.forall_mem_append.mpr ⟨List.forall_mem_append.mpr ⟨List.forall_mem_append.mpr ⟨List.forall_mem_append.mpr ⟨List.forall_mem_append.mpr ⟨List.forall_mem_append.mpr ⟨List.forall_mem_append.mpr ⟨List.forall_mem_append.mpr ⟨List.forall_mem_append.mpr ⟨List.forall_mem_append.mpr ⟨List.forall_mem_append.mpr ⟨List.forall_mem_append.mpr ⟨lin_wsL_law_r1, List.forall_mem_append.mpr ⟨lin_wsL_law_r2, List.forall_mem_append.mpr ⟨lin_wsL_law_r3, List.forall_mem_append.mpr ⟨lin_wsL_law_r4, List.forall_mem_append.mpr ⟨lin_wsL_law_r5, List.forall_mem_append.mpr ⟨lin_wsL_law_r6, List.forall_mem_append.mpr ⟨lin_wsL_law_r7, List.forall_mem_append.mpr ⟨lin_wsL_law_r8, List.forall_mem_append.mpr ⟨lin_wsL_law_r9, List.forall_mem_append.mpr ⟨lin_wsL_law_r10, List.forall_mem_append.mpr ⟨lin_wsL_law_r11, List.forall_mem_append.mpr ⟨lin_wsL_law_r12, List.forall_mem_append.mpr ⟨lin_wsL_law_r13, List.forall_mem_append.mpr ⟨lin_wsL_law_r14, List.forall_mem_append.mpr ⟨lin_wsL_law_r15, List.forall_mem_append.mpr ⟨lin_wsL_law_r16, List.forall_mem_append.mpr ⟨lin_wsL_law_r17, List.forall_mem_append.mpr ⟨lin_wsL_law_r18, List.forall_mem_append.mpr ⟨lin_wsL_law_r19, List.forall_mem_append.mpr ⟨lin_wsL_law_r20, List.forall_mem_append.mpr ⟨lin_wsL_law_r21, List.forall_mem_append.mpr ⟨lin_wsL_law_r22, List.forall_mem_append.mpr ⟨lin_wsL_law_r23, List.forall_mem_append.mpr ⟨lin_wsL_law_r24, List.forall_mem_append.mpr ⟨lin_wsL_law_r25, List.forall_mem_append.mpr ⟨lin_wsL_law_r26, List.forall_mem_append.mpr ⟨lin_wsL_law_r27, List.forall_mem_append.mpr ⟨lin_wsL_law_r28, List.forall_mem_append.mpr ⟨lin_wsL_law_r29, List.forall_mem_append.mpr ⟨lin_wsL_law_r30, List.forall_mem_append.mpr ⟨lin_wsL_law_r31, List.forall_mem_append.mpr ⟨lin_wsL_law_r32, List.forall_mem_append.mpr ⟨lin_wsL_law_r33, List.forall_mem_append.mpr ⟨lin_wsL_law_r34, List.forall_mem_append.mpr ⟨lin_wsL_law_r35, List.forall_mem_append.mpr ⟨lin_wsL_law_r36, List.forall_mem_append.mpr ⟨lin_wsL_law_r37, List.forall_mem_append.mpr ⟨lin_wsL_law_r38, List.forall_mem_append.mpr ⟨lin_wsL_law_r39, List.forall_mem_append.mpr ⟨lin_wsL_law_r40, List.forall_mem_append.mpr ⟨lin_wsL_law_r41, List.forall_mem_append.mpr ⟨lin_wsL_law_r42, List.forall_mem_append.mpr ⟨lin_wsL_law_r43, List.forall_mem_append.mpr ⟨lin_wsL_law_r44, List.forall_mem_append.mpr ⟨lin_wsL_law_r45, List.forall_mem_append.mpr ⟨lin_wsL_law_r46, List.forall_mem_append.mpr ⟨lin_wsL_law_r47, List.forall_mem_append.mpr ⟨lin_wsL_law_r48, List.forall_mem_append.mpr ⟨lin_wsL_law_r49, List.forall_mem_append.mpr ⟨lin_wsL_law_r50, List.forall_mem_append.mpr ⟨lin_wsL_law_r51, List.forall_mem_append.mpr ⟨lin_wsL_law_r52, List.forall_mem_append.mpr ⟨lin_wsL_law_r53, List.forall_mem_append.mpr ⟨lin_wsL_law_r54, List.forall_mem_append.mpr ⟨lin_wsL_law_r55, lin_wsL_law_r56⟩⟩⟩⟩⟩⟩⟩⟩⟩⟩⟩⟩⟩⟩⟩⟩⟩⟩⟩⟩⟩⟩⟩⟩⟩⟩⟩⟩⟩⟩⟩⟩⟩⟩⟩⟩⟩⟩⟩⟩⟩⟩⟩⟩⟩⟩⟩⟩⟩⟩⟩⟩⟩⟩⟩, lin_wsX90⟩, lin_wsX100⟩, lin_wsX80⟩, lin_wsX70⟩, lin_wsX30⟩, lin_wsX60⟩, lin_wsX40⟩, lin_wsX10⟩, lin_wsX50⟩, lin_wsX20⟩, lin_wsX00⟩, fun w h => absurd h List.not_mem_nil⟩
