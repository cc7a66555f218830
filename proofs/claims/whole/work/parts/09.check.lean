/-! 08.check: places of the words, checked by the kernel -/
def YCK : List (Nat × Nat × Nat × Nat × Nat) := [(0, 359, 104, 358, 9999), (1, 942, 104, 940, 941), (2, 954, 104, 952, 953), (3, 962, 104, 960, 961), (4, 946, 104, 945, 30), (5, 307, 101, 306, 9999), (6, 646, 101, 644, 645), (7, 650, 101, 649, 14), (8, 657, 101, 656, 15), (9, 663, 101, 661, 662), (10, 704, 101, 702, 703), (11, 696, 101, 695, 18), (12, 712, 101, 711, 20), (13, 716, 101, 715, 21), (14, 720, 101, 719, 22), (15, 667, 101, 666, 16), (16, 708, 101, 707, 19), (17, 724, 101, 723, 23), (18, 237, 99, 236, 9999), (19, 507, 99, 505, 506), (20, 628, 99, 627, 11), (21, 581, 99, 580, 4), (22, 585, 99, 584, 5), (23, 589, 99, 588, 6), (24, 613, 99, 612, 9), (25, 617, 99, 616, 10), (26, 620, 99, 619, 0), (27, 597, 99, 596, 7), (28, 601, 99, 600, 8), (29, 518, 99, 517, 2), (30, 525, 99, 524, 3), (31, 521, 99, 520, 0), (32, 577, 99, 576, 0), (33, 243, 100, 242, 9999), (34, 514, 100, 512, 513), (35, 593, 100, 591, 592), (36, 609, 100, 607, 608), (37, 624, 100, 622, 623), (38, 605, 100, 603, 604), (39, 679, 100, 677, 678), (40, 683, 100, 682, 17), (41, 686, 100, 685, 0), (42, 125, 98, 124, 9999), (43, 762, 98, 760, 761), (44, 765, 98, 764, 0), (45, 441, 98, 439, 440), (46, 465, 98, 463, 464), (47, 837, 98, 835, 836), (48, 422, 98, 420, 421), (49, 426, 98, 425, 0), (50, 470, 98, 468, 469), (51, 430, 98, 428, 429), (52, 671, 98, 669, 670), (53, 675, 98, 673, 674), (54, 700, 98, 698, 699), (55, 930, 98, 928, 929), (56, 922, 98, 920, 921), (57, 803, 98, 801, 802), (58, 807, 98, 805, 806), (59, 824, 98, 822, 823), (60, 829, 98, 827, 828), (61, 895, 98, 893, 894), (62, 950, 98, 948, 949), (63, 339, 103, 338, 9999), (64, 899, 103, 897, 898), (65, 910, 103, 908, 909), (66, 904, 103, 903, 29), (67, 323, 102, 322, 9999), (68, 841, 102, 839, 840), (69, 851, 102, 850, 25), (70, 866, 102, 864, 865), (71, 883, 102, 881, 882), (72, 870, 102, 869, 26), (73, 875, 102, 874, 27), (74, 879, 102, 878, 28), (75, 117, 97, 116, 9999), (76, 418, 97, 417, 0), (77, 444, 97, 443, 0), (78, 415, 97, 413, 414), (79, 437, 97, 435, 436), (80, 449, 97, 447, 448), (81, 453, 97, 451, 452), (82, 457, 97, 455, 456), (83, 461, 97, 459, 460), (84, 474, 97, 472, 473), (85, 478, 97, 476, 477), (86, 482, 97, 480, 481), (87, 486, 97, 484, 485), (88, 490, 97, 488, 489), (89, 494, 97, 493, 1), (90, 498, 97, 496, 497), (91, 502, 97, 500, 501), (92, 637, 97, 636, 12), (93, 633, 97, 631, 632), (94, 642, 97, 641, 13), (95, 729, 97, 727, 728), (96, 733, 97, 731, 732), (97, 738, 97, 736, 737), (98, 742, 97, 740, 741), (99, 746, 97, 744, 745), (100, 750, 97, 748, 749), (101, 758, 97, 757, 0), (102, 755, 97, 753, 754), (103, 773, 97, 771, 772), (104, 777, 97, 775, 776), (105, 782, 97, 780, 781), (106, 786, 97, 784, 785), (107, 790, 97, 788, 789), (108, 795, 97, 793, 794), (109, 799, 97, 797, 798), (110, 812, 97, 810, 811), (111, 816, 97, 814, 815), (112, 820, 97, 819, 24), (113, 833, 97, 831, 832), (114, 857, 97, 855, 856), (115, 861, 97, 859, 860), (116, 887, 97, 885, 886), (117, 891, 97, 889, 890), (118, 914, 97, 912, 913), (119, 918, 97, 916, 917), (120, 926, 97, 924, 925), (121, 934, 97, 932, 933), (122, 938, 97, 936, 937), (123, 958, 97, 956, 957), (124, 966, 97, 964, 965), (125, 972, 97, 970, 971), (126, 976, 97, 974, 975), (127, 981, 105, 980, 9999), (128, 1225, 105, 1224, 0), (129, 1471, 105, 1470, 0), (130, 1234, 105, 1233, 31), (131, 1237, 105, 1236, 0), (132, 1502, 105, 1501, 0), (133, 1499, 105, 1498, 72), (134, 1265, 105, 1264, 33), (135, 1221, 105, 1219, 1220), (136, 1230, 105, 1228, 1229), (137, 1243, 105, 1241, 1242), (138, 1249, 105, 1247, 1248), (139, 1257, 105, 1256, 32), (140, 1253, 105, 1251, 1252), (141, 1270, 105, 1269, 34), (142, 1261, 105, 1259, 1260), (143, 1274, 105, 1272, 1273), (144, 1278, 105, 1276, 1277), (145, 1282, 105, 1280, 1281), (146, 1286, 105, 1284, 1285), (147, 1454, 105, 1453, 63), (148, 1291, 105, 1289, 1290), (149, 1295, 105, 1294, 35), (150, 1299, 105, 1297, 1298), (151, 1374, 105, 1373, 0), (152, 1318, 105, 1317, 0), (153, 1332, 105, 1331, 40), (154, 1315, 105, 1314, 38), (155, 1311, 105, 1310, 37), (156, 1348, 105, 1347, 44), (157, 1326, 105, 1325, 39), (158, 1394, 105, 1393, 50), (159, 1371, 105, 1370, 49), (160, 1367, 105, 1366, 48), (161, 1344, 105, 1343, 43), (162, 1362, 105, 1361, 47), (163, 1358, 105, 1357, 46), (164, 1354, 105, 1353, 45), (165, 1411, 105, 1410, 54), (166, 1419, 105, 1418, 56), (167, 1407, 105, 1406, 53), (168, 1415, 105, 1414, 55), (169, 1402, 105, 1401, 52), (170, 1398, 105, 1397, 51), (171, 1340, 105, 1339, 42), (172, 1336, 105, 1335, 41), (173, 1307, 105, 1306, 36), (174, 1303, 105, 1301, 1302), (175, 1429, 105, 1428, 57), (176, 1468, 105, 1467, 0), (177, 1465, 105, 1464, 0), (178, 1462, 105, 1461, 65), (179, 1458, 105, 1457, 64), (180, 1514, 105, 1513, 75), (181, 1450, 105, 1449, 62), (182, 1487, 105, 1486, 69), (183, 1510, 105, 1509, 74), (184, 1479, 105, 1478, 67), (185, 1483, 105, 1482, 68), (186, 1446, 105, 1445, 61), (187, 1442, 105, 1441, 60), (188, 1475, 105, 1474, 66), (189, 1506, 105, 1505, 73), (190, 1495, 105, 1494, 71), (191, 1491, 105, 1490, 70), (192, 1438, 105, 1437, 59), (193, 1434, 105, 1433, 58), (194, 1425, 105, 1423, 1424), (195, 1518, 105, 1516, 1517), (196, 1522, 105, 1520, 1521), (197, 1526, 105, 1524, 1525), (198, 1530, 105, 1528, 1529), (199, 1534, 105, 1532, 1533), (200, 1538, 105, 1536, 1537), (201, 1554, 105, 1553, 0), (202, 1557, 105, 1556, 0), (203, 1551, 105, 1550, 77), (204, 1565, 105, 1564, 79), (205, 1561, 105, 1560, 78), (206, 1547, 105, 1546, 76), (207, 1542, 105, 1540, 1541), (208, 1569, 105, 1567, 1568), (209, 1573, 105, 1571, 1572), (210, 1578, 105, 1576, 1577), (211, 1583, 105, 1581, 1582), (212, 1587, 105, 1585, 1586), (213, 1591, 105, 1589, 1590), (214, 1599, 105, 1598, 80), (215, 1603, 105, 1602, 81), (216, 1595, 105, 1593, 1594), (217, 1607, 105, 1605, 1606), (218, 1615, 105, 1614, 82), (219, 1611, 105, 1609, 1610), (220, 1619, 105, 1617, 1618), (221, 1623, 105, 1622, 83), (222, 1627, 105, 1625, 1626), (223, 1635, 105, 1634, 0), (224, 1643, 105, 1642, 85), (225, 1647, 105, 1646, 86), (226, 1639, 105, 1638, 84), (227, 1632, 105, 1630, 1631), (228, 1651, 105, 1649, 1650), (229, 1661, 105, 1660, 87), (230, 1656, 105, 1654, 1655), (231, 1665, 105, 1664, 88), (232, 1669, 105, 1667, 1668), (233, 1673, 105, 1671, 1672), (234, 1681, 105, 1680, 89), (235, 1677, 105, 1675, 1676), (236, 1685, 105, 1683, 1684), (237, 1697, 105, 1696, 91), (238, 1693, 105, 1692, 90), (239, 1689, 105, 1687, 1688), (240, 1705, 105, 1704, 92), (241, 1701, 105, 1699, 1700), (242, 1709, 105, 1707, 1708), (243, 1722, 105, 1721, 94), (244, 1726, 105, 1725, 95), (245, 1718, 105, 1717, 93), (246, 1713, 105, 1711, 1712), (247, 1730, 105, 1728, 1729), (248, 9999, 96, 9999, 0), (249, 844, 112, 843, 0)]
def STT : List Bool := [false, false, false, false, false, false, false, false, false, false, false, false, false, false, false, false, false, false, false, false, false, false, false, false, false, false, true, false, false, false, false, true, true, false, false, false, false, false, false, false, false, true, false, false, true, false, false, false, false, false, false, false, false, false, false, false, false, false, false, false, false, false, false, false, false, false, false, false, false, false, false, false, false, false, false, false, true, true, false, false, false, false, false, false, false, false, false, false, false, false, false, false, false, false, false, false, false, false, false, false, false, true, false, false, false, false, false, false, false, false, false, false, false, false, false, false, false, false, false, false, false, false, false, false, false, false, false, false, true, true, false, true, true, false, false, false, false, false, false, false, false, false, false, false, false, false, false, false, false, false, false, true, true, false, false, false, false, false, false, false, false, false, false, false, false, false, false, false, false, false, false, false, false, false, false, false, true, true, false, false, false, false, false, false, false, false, false, false, false, false, false, false, false, false, false, false, false, false, false, false, false, true, true, false, false, false, false, false, false, false, false, false, false, false, false, false, false, false, false, false, false, false, false, true, false, false, false, false, false, false, false, false, false, false, false, false, false, false, false, false, false, false, false, false, false, false, false, false, true, true]
def LCK : List (Nat × Nat × Nat × Nat) := [(0, 22, 4, 943), (0, 35, 62, 947), (1, 24, 7, 647), (1, 28, 8, 654), (1, 37, 9, 660), (1, 48, 11, 693), (1, 55, 12, 709), (1, 81, 15, 664), (1, 85, 39, 676), (1, 94, 16, 705), (1, 101, 54, 697), (1, 105, 10, 701), (1, 112, 13, 713), (1, 116, 14, 717), (1, 132, 17, 721), (1, 140, 52, 668), (1, 144, 53, 672), (1, 147, 51, 725), (2, 41, 34, 511), (2, 44, 29, 515), (2, 50, 21, 578), (2, 54, 22, 582), (2, 57, 23, 586), (2, 60, 20, 625), (2, 73, 35, 590), (2, 77, 27, 594), (2, 80, 36, 606), (2, 83, 24, 610), (2, 86, 37, 621), (2, 89, 25, 614), (2, 92, 38, 602), (2, 95, 26, 618), (2, 98, 28, 598), (2, 102, 31, 519), (2, 105, 30, 522), (2, 108, 32, 575), (3, 41, 40, 680), (3, 45, 41, 684), (4, 77, 44, 763), (4, 93, 45, 466), (4, 97, 49, 423), (4, 101, 51, 427), (5, 32, 66, 901), (6, 21, 249, 842), (6, 27, 69, 848), (6, 43, 51, 852), (6, 46, 72, 867), (6, 56, 73, 872), (6, 64, 74, 876), (7, 68, 76, 416), (7, 72, 48, 419), (7, 76, 45, 438), (7, 80, 77, 442), (7, 101, 46, 462), (7, 105, 50, 467), (7, 117, 89, 491), (7, 125, 19, 504), (7, 129, 92, 634), (7, 138, 94, 639), (7, 142, 6, 643), (7, 146, 54, 734), (7, 163, 10, 751), (7, 166, 101, 756), (7, 170, 43, 759), (7, 179, 9, 791), (7, 189, 57, 800), (7, 193, 58, 804), (7, 202, 112, 817), (7, 206, 59, 821), (7, 209, 60, 826), (7, 213, 47, 834), (7, 216, 68, 838), (7, 220, 249, 862), (7, 225, 70, 863), (7, 229, 71, 880), (7, 235, 61, 892), (7, 239, 64, 896), (7, 242, 65, 907), (7, 245, 56, 919), (7, 248, 55, 927), (7, 252, 1, 939), (7, 255, 2, 951), (7, 259, 3, 959), (7, 262, 53, 967), (7, 265, 52, 968), (8, 216, 128, 1223), (8, 222, 132, 1500), (8, 226, 130, 1231), (8, 234, 131, 1235), (8, 243, 139, 1254), (8, 246, 134, 1262), (8, 252, 141, 1267), (8, 260, 149, 1292), (8, 307, 154, 1312), (8, 324, 155, 1308), (8, 327, 157, 1323), (8, 340, 153, 1329), (8, 344, 156, 1345), (8, 349, 161, 1341), (8, 353, 160, 1364), (8, 356, 159, 1368), (8, 359, 151, 1372), (8, 363, 162, 1359), (8, 366, 163, 1355), (8, 369, 164, 1351), (8, 378, 166, 1416), (8, 383, 167, 1404), (8, 386, 165, 1408), (8, 389, 169, 1399), (8, 392, 168, 1412), (8, 399, 152, 1316), (8, 402, 172, 1333), (8, 405, 171, 1337), (8, 410, 158, 1391), (8, 413, 170, 1395), (8, 419, 173, 1304), (8, 422, 176, 1466), (8, 426, 177, 1463), (8, 430, 178, 1459), (8, 434, 147, 1451), (8, 436, 181, 1447), (8, 439, 182, 1484), (8, 442, 133, 1496), (8, 444, 179, 1455), (8, 448, 129, 1469), (8, 452, 186, 1443), (8, 455, 184, 1476), (8, 458, 185, 1480), (8, 461, 183, 1507), (8, 465, 180, 1511), (8, 468, 190, 1492), (8, 471, 189, 1503), (8, 475, 187, 1439), (8, 478, 188, 1472), (8, 481, 191, 1488), (8, 485, 175, 1426), (8, 490, 193, 1431), (8, 494, 192, 1435), (8, 496, 201, 1552), (8, 500, 202, 1555), (8, 504, 203, 1548), (8, 507, 205, 1558), (8, 510, 204, 1562), (8, 515, 206, 1544), (8, 522, 214, 1596), (8, 525, 215, 1600), (8, 528, 218, 1612), (8, 531, 221, 1620), (8, 536, 225, 1644), (8, 539, 223, 1633), (8, 542, 226, 1636), (8, 545, 224, 1640), (8, 552, 229, 1658), (8, 555, 231, 1662), (8, 558, 234, 1678), (8, 561, 238, 1690), (8, 564, 237, 1694), (8, 567, 240, 1702), (8, 577, 243, 1719), (8, 581, 244, 1723), (8, 587, 245, 1715), (9, 9, 75, 115), (9, 12, 127, 979), (9, 13, 78, 412), (9, 17, 135, 1218), (9, 18, 79, 434), (9, 21, 136, 1227), (9, 22, 80, 446), (9, 26, 137, 1240), (9, 27, 81, 450), (9, 31, 138, 1246), (9, 32, 82, 454), (9, 36, 140, 1250), (9, 37, 83, 458), (9, 40, 142, 1258), (9, 41, 84, 471), (9, 44, 143, 1271), (9, 45, 85, 475), (9, 49, 144, 1275), (9, 50, 86, 479), (9, 53, 145, 1279), (9, 54, 87, 483), (9, 57, 146, 1283), (9, 58, 88, 487), (9, 62, 148, 1288), (9, 63, 90, 495), (9, 66, 150, 1296), (9, 67, 91, 499), (9, 71, 174, 1300), (9, 72, 93, 630), (9, 76, 194, 1422), (9, 77, 95, 726), (9, 81, 195, 1515), (9, 82, 96, 730), (9, 85, 196, 1519), (9, 86, 97, 735), (9, 90, 197, 1523), (9, 91, 98, 739), (9, 94, 198, 1527), (9, 95, 99, 743), (9, 98, 199, 1531), (9, 99, 100, 747), (9, 102, 200, 1535), (9, 103, 102, 752), (9, 107, 207, 1539), (9, 108, 103, 770), (9, 112, 208, 1566), (9, 113, 104, 774), (9, 116, 209, 1570), (9, 117, 105, 779), (9, 120, 210, 1575), (9, 121, 106, 783), (9, 124, 211, 1580), (9, 125, 107, 787), (9, 128, 212, 1584), (9, 129, 108, 792), (9, 133, 213, 1588), (9, 134, 109, 796), (9, 137, 216, 1592), (9, 138, 110, 809), (9, 141, 217, 1604), (9, 142, 111, 813), (9, 145, 219, 1608), (9, 146, 113, 830), (9, 149, 220, 1616), (9, 150, 114, 854), (9, 153, 222, 1624), (9, 154, 115, 858), (9, 157, 227, 1629), (9, 158, 116, 884), (9, 162, 228, 1648), (9, 163, 117, 888), (9, 166, 230, 1653), (9, 167, 118, 911), (9, 170, 232, 1666), (9, 171, 119, 915), (9, 174, 233, 1670), (9, 175, 120, 923), (9, 178, 235, 1674), (9, 179, 121, 931), (9, 182, 236, 1682), (9, 183, 122, 935), (9, 186, 239, 1686), (9, 187, 123, 955), (9, 190, 241, 1698), (9, 191, 124, 963), (9, 194, 242, 1706), (9, 195, 125, 969), (9, 198, 246, 1710), (9, 199, 126, 973), (9, 202, 247, 1727)]
def JCK : List (Nat × Nat × Nat × Nat) := [(0, 3, 1009, 360), (1, 3, 1009, 308), (1, 65, 1001, 651), (1, 78, 1002, 659), (1, 89, 1003, 687), (1, 92, 1004, 690), (2, 5, 1009, 238), (2, 22, 1002, 508), (2, 113, 1007, 527), (2, 117, 1008, 537), (3, 5, 1009, 244), (4, 3, 1009, 126), (4, 81, 1006, 767), (4, 87, 1002, 766), (4, 104, 1000, 431), (4, 108, 1001, 825), (5, 3, 1009, 340), (5, 36, 1006, 906), (5, 42, 1001, 905), (6, 3, 1009, 324), (6, 37, 1002, 853), (6, 50, 1006, 871), (7, 1, 1009, 118), (8, 1, 1009, 982), (8, 315, 1007, 1327), (8, 320, 1008, 1328)]
def FCK : List (Nat × Nat × Nat × Nat × Nat) := [(0, 9, 0, 0, 361), (0, 15, 0, 1, 362), (0, 18, 0, 2, 363), (0, 26, 0, 3, 364), (0, 30, 4, 2, 139), (1, 11, 1, 0, 309), (1, 17, 1, 1, 310), (1, 20, 1, 2, 311), (1, 31, 4, 2, 136), (1, 41, 4, 5, 147), (1, 44, 4, 12, 167), (1, 52, 4, 10, 161), (1, 59, 4, 0, 132), (1, 62, 4, 8, 155), (1, 71, 4, 4, 145), (1, 74, 4, 11, 164), (1, 98, 4, 3, 143), (1, 109, 4, 9, 159), (1, 120, 4, 19, 185), (1, 123, 4, 13, 170), (1, 126, 4, 14, 173), (1, 129, 3, 0, 247), (1, 136, 4, 18, 182), (2, 11, 2, 0, 275), (2, 18, 2, 8, 283), (2, 28, 2, 1, 276), (2, 32, 2, 2, 277), (2, 35, 2, 6, 281), (2, 38, 2, 7, 282), (2, 47, 2, 3, 278), (2, 64, 2, 4, 279), (2, 67, 2, 5, 280), (2, 70, 3, 0, 246), (3, 11, 3, 3, 250), (3, 15, 3, 4, 251), (3, 18, 3, 5, 252), (3, 21, 3, 6, 253), (3, 24, 3, 7, 254), (3, 27, 3, 8, 255), (3, 31, 3, 0, 245), (3, 35, 3, 1, 248), (3, 38, 3, 2, 249), (4, 9, 4, 1, 134), (4, 17, 4, 8, 154), (4, 20, 4, 9, 158), (4, 23, 4, 10, 160), (4, 26, 4, 11, 163), (4, 29, 4, 12, 166), (4, 32, 4, 13, 169), (4, 35, 4, 14, 171), (4, 38, 4, 15, 174), (4, 41, 4, 16, 176), (4, 44, 4, 17, 178), (4, 49, 4, 18, 181), (4, 52, 4, 19, 184), (4, 56, 4, 0, 131), (4, 59, 4, 2, 137), (4, 62, 4, 3, 141), (4, 65, 4, 4, 144), (4, 68, 4, 5, 148), (4, 71, 4, 6, 150), (4, 74, 4, 7, 152), (5, 11, 5, 0, 342), (5, 16, 5, 1, 343), (5, 20, 5, 2, 344), (5, 23, 5, 3, 345), (5, 27, 4, 17, 179), (6, 9, 6, 0, 325), (6, 15, 6, 1, 326), (6, 18, 6, 2, 327), (6, 31, 4, 2, 138), (6, 60, 4, 8, 157), (7, 10, 7, 0, 375), (7, 16, 7, 1, 376), (7, 19, 7, 2, 377), (7, 25, 7, 3, 378), (7, 29, 7, 5, 380), (7, 36, 7, 7, 382), (7, 43, 7, 8, 383), (7, 50, 7, 9, 384), (7, 57, 7, 10, 385), (7, 64, 7, 11, 386), (7, 84, 4, 8, 156), (7, 88, 4, 3, 142), (7, 92, 4, 10, 162), (7, 95, 4, 4, 146), (7, 98, 4, 11, 165), (7, 108, 4, 14, 172), (7, 111, 4, 1, 135), (7, 114, 7, 6, 381), (7, 121, 7, 4, 379), (7, 133, 4, 0, 133), (7, 149, 4, 19, 186), (7, 153, 4, 18, 183), (7, 157, 4, 5, 149), (7, 160, 4, 12, 168), (7, 176, 4, 2, 140), (7, 183, 4, 6, 151), (7, 186, 4, 15, 175), (7, 196, 4, 7, 153), (7, 199, 4, 16, 177), (7, 232, 4, 17, 180), (8, 7, 8, 1, 984), (8, 13, 8, 2, 985), (8, 16, 8, 3, 986), (8, 19, 8, 4, 987), (8, 22, 8, 5, 988), (8, 25, 8, 6, 989), (8, 28, 8, 7, 990), (8, 31, 8, 8, 991), (8, 34, 8, 9, 992), (8, 37, 8, 10, 993), (8, 40, 8, 11, 994), (8, 43, 8, 12, 995), (8, 46, 8, 13, 996), (8, 49, 8, 14, 997), (8, 52, 8, 15, 998), (8, 55, 8, 16, 999), (8, 58, 8, 17, 1000), (8, 61, 8, 18, 1001), (8, 64, 8, 19, 1002), (8, 67, 8, 20, 1003), (8, 70, 8, 21, 1004), (8, 73, 8, 22, 1005), (8, 76, 8, 23, 1006), (8, 79, 8, 24, 1007), (8, 82, 8, 25, 1008), (8, 85, 8, 26, 1009), (8, 88, 8, 27, 1010), (8, 91, 8, 28, 1011), (8, 94, 8, 29, 1012), (8, 97, 8, 30, 1013), (8, 100, 8, 31, 1014), (8, 103, 8, 32, 1015), (8, 106, 8, 33, 1016), (8, 109, 8, 34, 1017), (8, 112, 8, 35, 1018), (8, 115, 8, 36, 1019), (8, 119, 8, 37, 1020), (8, 122, 8, 47, 1030), (8, 126, 8, 48, 1031), (8, 130, 8, 49, 1032), (8, 133, 8, 50, 1033), (8, 136, 8, 51, 1034), (8, 139, 8, 52, 1035), (8, 142, 8, 53, 1036), (8, 145, 8, 54, 1037), (8, 148, 8, 55, 1038), (8, 151, 8, 56, 1039), (8, 154, 8, 57, 1040), (8, 157, 8, 58, 1041), (8, 160, 8, 59, 1042), (8, 163, 8, 60, 1043), (8, 166, 8, 61, 1044), (8, 169, 8, 62, 1045), (8, 173, 8, 63, 1046), (8, 176, 8, 64, 1047), (8, 179, 8, 65, 1048), (8, 182, 8, 66, 1049), (8, 185, 8, 67, 1050), (8, 188, 8, 68, 1051), (8, 192, 8, 69, 1052), (8, 195, 8, 70, 1053), (8, 198, 8, 71, 1054), (8, 201, 8, 72, 1055), (8, 204, 8, 73, 1056), (8, 207, 8, 74, 1057), (8, 210, 8, 75, 1058), (8, 257, 8, 38, 1021), (8, 301, 8, 40, 1023), (8, 304, 8, 39, 1022), (8, 331, 8, 41, 1024), (8, 334, 8, 43, 1026), (8, 337, 8, 45, 1028), (8, 372, 8, 46, 1029), (8, 375, 8, 44, 1027), (8, 416, 8, 42, 1025), (8, 570, 8, 77, 1060), (8, 574, 8, 76, 1059)]
def KCK : List (Nat × Nat × Nat × Int × Nat) := [(1, 77, 0, 99999, 658), (4, 111, 0, 99999, 808), (5, 26, 0, 1000000, 900), (7, 83, 0, 99999, 445), (7, 136, 1, -1, 638), (7, 174, 1, -1000000000000, 778), (8, 191, 0, 49152, 983), (8, 220, 1, 5, 1238), (8, 230, 1, 99, 1222), (8, 232, 1, 9, 1226), (8, 237, 1, 99999, 1239), (8, 239, 1, 999, 1244), (8, 241, 1, 95, 1245), (8, 250, 1, 9999, 1266), (8, 255, 1, -1, 1287), (8, 311, 1, 48, 1349), (8, 313, 1, 57, 1350), (8, 348, 0, 99999, 1363), (8, 488, 1, 60, 1430), (8, 513, 1, 2, 1543), (8, 518, 1, -1000000000000, 1574), (8, 520, 1, 20, 1579), (8, 534, 1, 1000, 1628), (8, 548, 1, 4, 1652), (8, 550, 1, 7, 1657), (8, 585, 1, 3, 1714), (10, 265, 0, 1431655765, 845), (10, 266, 0, 858993459, 846), (10, 267, 0, 252645135, 847)]
def atW (i : Nat) (c : Cond) : Bool := decide (lw_tbl[i]? = some c) && goodWord c
theorem atW_in {i : Nat} {c : Cond} (h : atW i c = true) : c ∈ WT := by
  simp only [atW, Bool.and_eq_true, decide_eq_true_eq] at h
  exact WT_in (List.mem_of_getElem? h.1) h.2
def isSt (y : Nat) : Bool := STT.getD y false
def ckY (q : Nat × Nat × Nat × Nat × Nat) : Bool :=
  (decide (nL q.1 ≤ 45) && decide ((yn q.1).cls = RN (own q.1)) && decide ((yn q.1).cls ≠ "java/lang/invoke/MethodHandle") && decide ((yn q.1).cls ≠ "java/lang/invoke/VarHandle") &&
    decide ((parseMethodDescriptor (yn q.1).desc).map (fun d => d.parameters.length) = some (nA q.1)) && atW q.2.2.1 (.initialized (RN (own q.1))) && plainName (yn q.1).cls) &&
  (if isSt q.1 then atW q.2.2.2.1 (.static (yn q.1)) else atW q.2.2.2.1 (.instanceMethod (yn q.1)) && (decide (q.2.2.2.2 = 9999) || (atW q.2.2.2.2 (.selects (RN (own q.1)) (yn q.1) (yn q.1)) && decide ((vwCl[own q.1]?).map (fun r => r.1) = some (RN (own q.1))))))
theorem all_cut {α : Type} (p : α → Bool) (l : List α) (n : Nat) (h1 : (l.take n).all p = true) (h2 : (l.drop n).all p = true) : l.all p = true := by
  rw [← List.take_append_drop n l, List.all_append, h1, h2]; rfl
theorem ckY_a0 : ((YCK.drop 0).take 50).all (fun q => decide (q.1 = 248) || ckY q) = true := by decide +kernel
theorem ckY_a50 : ((YCK.drop 50).take 50).all (fun q => decide (q.1 = 248) || ckY q) = true := by decide +kernel
theorem ckY_a100 : ((YCK.drop 100).take 50).all (fun q => decide (q.1 = 248) || ckY q) = true := by decide +kernel
theorem ckY_a150 : ((YCK.drop 150).take 50).all (fun q => decide (q.1 = 248) || ckY q) = true := by decide +kernel
theorem ckY_b200 : (YCK.drop 200).all (fun q => decide (q.1 = 248) || ckY q) = true := by decide +kernel
theorem ckY_b150 : (YCK.drop 150).all (fun q => decide (q.1 = 248) || ckY q) = true := all_cut _ _ 50 ckY_a150 (by rw [List.drop_drop]; exact ckY_b200)
theorem ckY_b100 : (YCK.drop 100).all (fun q => decide (q.1 = 248) || ckY q) = true := all_cut _ _ 50 ckY_a100 (by rw [List.drop_drop]; exact ckY_b150)
theorem ckY_b50 : (YCK.drop 50).all (fun q => decide (q.1 = 248) || ckY q) = true := all_cut _ _ 50 ckY_a50 (by rw [List.drop_drop]; exact ckY_b100)
theorem ckY_b0 : (YCK.drop 0).all (fun q => decide (q.1 = 248) || ckY q) = true := all_cut _ _ 50 ckY_a0 (by rw [List.drop_drop]; exact ckY_b50)
theorem ckY_all : YCK.all (fun q => decide (q.1 = 248) || ckY q) = true := by
  have h := ckY_b0
  rw [List.drop_zero] at h
  exact h
theorem YCK_at : ∀ y, y < 250 → (YCK[y]?).map (fun q => q.1) = some y := by decide +kernel
theorem ckY_of {y : Nat} (h : y < 250) (hne : y ≠ 248) : ∃ q, YCK[y]? = some q ∧ q.1 = y ∧ ckY q = true := by
  have h1 := YCK_at y h
  cases hq : YCK[y]? with
  | none => rw [hq] at h1; simp at h1
  | some q =>
    rw [hq] at h1
    have e : q.1 = y := by simpa using h1
    refine ⟨q, rfl, e, ?_⟩
    have h2 := List.all_eq_true.mp ckY_all q (List.mem_of_getElem? hq)
    simp only [Bool.or_eq_true, decide_eq_true_eq] at h2
    rcases h2 with h2 | h2
    · exact absurd (e.symm.trans h2) hne
    · exact h2
theorem codes_of {y : Nat} (h : y < 250) (hne : y ≠ 248) : Cond.code (yn y) (bc y) (nL y) (rt y) ∈ WT := by
  rcases (by omega : y < 50 ∨ (50 ≤ y ∧ y < 100) ∨ (100 ≤ y ∧ y < 150) ∨ (150 ≤ y ∧ y < 200) ∨ 200 ≤ y) with z | z | z | z | z
  · exact codes_0 y (Nat.zero_le _) z hne
  · exact codes_50 y z.1 z.2 hne
  · exact codes_100 y z.1 z.2 hne
  · exact codes_150 y z.1 z.2 hne
  · exact codes_200 y z h hne
theorem okY_of {y : Nat} (h : y < 250) (hne : y ≠ 248) : okY y := by
  have h1 := codes_of h hne
  obtain ⟨q, -, rfl, hc⟩ := ckY_of h hne
  simp only [ckY, Bool.and_eq_true, decide_eq_true_eq] at hc
  obtain ⟨⟨⟨⟨⟨⟨⟨h2, h3⟩, h4⟩, h5⟩, h6⟩, h7⟩, h8⟩, -⟩ := hc
  exact ⟨h1, h2, h3, h4, h5, h6, atW_in h7, h8⟩
theorem okS_of {y : Nat} (h : y < 250) (hne : y ≠ 248) (hs : isSt y = true) : Cond.static (yn y) ∈ WT := by
  obtain ⟨q, -, rfl, hc⟩ := ckY_of h hne
  simp only [ckY, Bool.and_eq_true] at hc
  have h9 := hc.2
  rw [if_pos hs] at h9
  exact atW_in h9
/-- the methods that a virtual call may name: no constructor -/
def isVt (y : Nat) : Bool := !isSt y && decide (((YCK[y]?).map (fun q => q.2.2.2.2)) ≠ some 9999)
theorem okV_of {y : Nat} (h : y < 250) (hne : y ≠ 248) (hs : isVt y = true) : okV y := by
  obtain ⟨q, hq, rfl, hc⟩ := ckY_of h hne
  simp only [isVt, Bool.and_eq_true, Bool.not_eq_true', decide_eq_true_eq, hq, Option.map_some, ne_eq, Option.some.injEq] at hs
  simp only [ckY, Bool.and_eq_true] at hc
  have h9 := hc.2
  rw [if_neg (by rw [hs.1]; decide)] at h9
  simp only [Bool.and_eq_true, Bool.or_eq_true, decide_eq_true_eq] at h9
  obtain ⟨h9, h10 | ⟨h11, h12⟩⟩ := h9
  · exact absurd h10 hs.2
  · refine ⟨atW_in h9, atW_in h11, ?_⟩
    cases hr : vwCl[own q.1]? with
    | none => rw [hr] at h12; simp at h12
    | some r => rw [hr] at h12; exact ⟨r, rfl, by simpa using h12⟩
def ckL (q : Nat × Nat × Nat × Nat) : Bool := atW q.2.2.2 (.methodLink (RN q.1) q.2.1 (yn q.2.2.1))
theorem ckL_all : LCK.all ckL = true := by decide +kernel
def hasL (ow ix y : Nat) : Bool := LCK.any (fun q => q.1 == ow && q.2.1 == ix && q.2.2.1 == y)
theorem okL_of {ow ix y : Nat} (h : hasL ow ix y = true) : Cond.methodLink (RN ow) ix (yn y) ∈ WT := by
  obtain ⟨q, hq, h2⟩ := List.any_eq_true.mp h
  simp only [Bool.and_eq_true, beq_iff_eq] at h2
  obtain ⟨⟨rfl, rfl⟩, rfl⟩ := h2
  exact atW_in (List.all_eq_true.mp ckL_all q hq)
def jname (y : Nat) : MethodName := if y = 1000 then Lib.Math.abs.name else if y = 1001 then Lib.Math.max.name else if y = 1002 then Lib.Math.min.name else if y = 1003 then Lib.MathLoose.max_long.x else if y = 1004 then Lib.MathLoose.min_long.x else if y = 1006 then arraycopyName else if y = 1007 then yJ0_length_8abf5 else if y = 1008 then yJ0_charAt_5068e else objectInit
def ckJ (q : Nat × Nat × Nat × Nat) : Bool := atW q.2.2.2 (.methodLink (RN q.1) q.2.1 (jname q.2.2.1))
theorem ckJ_all : JCK.all ckJ = true := by decide +kernel
def hasJ (ow ix y : Nat) : Bool := JCK.any (fun q => q.1 == ow && q.2.1 == ix && q.2.2.1 == y)
theorem okJ_of {ow ix y : Nat} (h : hasJ ow ix y = true) : Cond.methodLink (RN ow) ix (jname y) ∈ WT := by
  obtain ⟨q, hq, h2⟩ := List.any_eq_true.mp h
  simp only [Bool.and_eq_true, beq_iff_eq] at h2
  obtain ⟨⟨rfl, rfl⟩, rfl⟩ := h2
  exact atW_in (List.all_eq_true.mp ckJ_all q hq)
theorem uX0 : ∀ x ∈ u_ws RX0 TX0 4, x ∈ lw_tbl ∧ goodWord x = true := by decide +kernel
theorem uX1 : ∀ x ∈ u_ws RX1 TX1 3, x ∈ lw_tbl ∧ goodWord x = true := by decide +kernel
theorem uX2 : ∀ x ∈ u_ws RX2 TX2 9, x ∈ lw_tbl ∧ goodWord x = true := by decide +kernel
theorem uX3 : ∀ x ∈ u_ws RX3 TX3 9, x ∈ lw_tbl ∧ goodWord x = true := by decide +kernel
theorem uX4 : ∀ x ∈ u_ws RX4 TX4 20, x ∈ lw_tbl ∧ goodWord x = true := by decide +kernel
theorem uX5 : ∀ x ∈ u_ws RX5 TX5 4, x ∈ lw_tbl ∧ goodWord x = true := by decide +kernel
theorem uX6 : ∀ x ∈ u_ws RX6 TX6 3, x ∈ lw_tbl ∧ goodWord x = true := by decide +kernel
theorem uX7 : ∀ x ∈ u_ws RX7 TX7 12, x ∈ lw_tbl ∧ goodWord x = true := by decide +kernel
theorem uX8 : ∀ x ∈ u_ws RX8 TX8 78, x ∈ lw_tbl ∧ goodWord x = true := by decide +kernel
theorem uX_of {c : Nat} {r : vw_C} (h : vwCl[c]? = some r) : (∀ x ∈ u_ws r.1 r.2.1 r.2.2, x ∈ WT) ∧ r.2.2 = NF c ∧ (∀ a, a < r.2.2 → ∀ b, b < r.2.2 → a ≠ b → (r.2.1 a).2.1 ≠ (r.2.1 b).2.1) ∧ ∃ t : Nat → FieldType, ∀ a, a < r.2.2 → parseFieldDescriptor (r.2.1 a).2.2.1 = some (t a) := by
  match c, h with
  | 0, h => cases h; exact ⟨fun x hx => WT_in (uX0 x hx).1 (uX0 x hx).2, rfl, nmX0, _, tyX0_ok⟩
  | 1, h => cases h; exact ⟨fun x hx => WT_in (uX1 x hx).1 (uX1 x hx).2, rfl, nmX1, _, tyX1_ok⟩
  | 2, h => cases h; exact ⟨fun x hx => WT_in (uX2 x hx).1 (uX2 x hx).2, rfl, nmX2, _, tyX2_ok⟩
  | 3, h => cases h; exact ⟨fun x hx => WT_in (uX3 x hx).1 (uX3 x hx).2, rfl, nmX3, _, tyX3_ok⟩
  | 4, h => cases h; exact ⟨fun x hx => WT_in (uX4 x hx).1 (uX4 x hx).2, rfl, nmX4, _, tyX4_ok⟩
  | 5, h => cases h; exact ⟨fun x hx => WT_in (uX5 x hx).1 (uX5 x hx).2, rfl, nmX5, _, tyX5_ok⟩
  | 6, h => cases h; exact ⟨fun x hx => WT_in (uX6 x hx).1 (uX6 x hx).2, rfl, nmX6, _, tyX6_ok⟩
  | 7, h => cases h; exact ⟨fun x hx => WT_in (uX7 x hx).1 (uX7 x hx).2, rfl, nmX7, _, tyX7_ok⟩
  | 8, h => cases h; exact ⟨fun x hx => WT_in (uX8 x hx).1 (uX8 x hx).2, rfl, nmX8, _, tyX8_ok⟩
  | c + 9, h => simp [vwCl] at h
def ckF (q : Nat × Nat × Nat × Nat × Nat) : Bool := match vwCl[q.2.2.1]? with
  | some r => decide (q.2.2.2.1 < r.2.2) && atW q.2.2.2.2 (.fieldLink (RN q.1) q.2.1 (r.2.1 q.2.2.2.1).1 (r.2.1 q.2.2.2.1).2.1 (r.2.1 q.2.2.2.1).2.2.1)
  | none => false
theorem ckF_all : FCK.all ckF = true := by decide +kernel
def hasF (ow ix c k : Nat) : Bool := FCK.any (fun q => q.1 == ow && q.2.1 == ix && q.2.2.1 == c && q.2.2.2.1 == k)
theorem okF_of {mi ix c k : Nat} (h : hasF (own mi) ix c k = true) : okF mi ix c k := by
  obtain ⟨q, hq, h2⟩ := List.any_eq_true.mp h
  simp only [Bool.and_eq_true, beq_iff_eq] at h2
  obtain ⟨⟨⟨e1, e2⟩, e3⟩, e4⟩ := h2
  have h3 := List.all_eq_true.mp ckF_all q hq
  unfold ckF at h3
  rw [e1, e2, e3, e4] at h3
  split at h3
  · rename_i r hr
    simp only [Bool.and_eq_true, decide_eq_true_eq] at h3
    exact ⟨r, hr, h3.1, (uX_of hr).2.1, atW_in h3.2, (uX_of hr).1⟩
  · cases h3
/-- the type that a field's kind stands for -/
def kty (kd : Nat) : FieldType → Bool := fun t => match t with
  | .int => kd == 0
  | .long => kd == 1
  | .boolean => kd == 2
  | .object _ => kd == 3
  | .array _ => kd == 3
  | _ => false
def wrF (c k : Nat) : Bool := match vwCl[c]? with
  | some r => !(r.2.1 k).2.2.2 && decide (k < r.2.2) && (match parseFieldDescriptor (r.2.1 k).2.2.1 with
    | some t => kty (lay c k).1 t
    | none => false)
  | none => false
theorem okP_of {mi ix c k : Nat} (h : hasF (own mi) ix c k = true) (hw : wrF c k = true) : ∃ ty, okP mi ix c k ty ∧ kty (lay c k).1 ty = true := by
  have hF := okF_of (mi := mi) h
  unfold wrF at hw
  split at hw
  · rename_i r hr
    simp only [Bool.and_eq_true, Bool.not_eq_true', decide_eq_true_eq] at hw
    obtain ⟨⟨h1, h2⟩, h3⟩ := hw
    split at h3
    · rename_i t ht
      exact ⟨t, ⟨hF, r, hr, h1, ht, (uX_of hr).2.2⟩, h3⟩
    · cases h3
  · cases hw
def ckK (q : Nat × Nat × Nat × Int × Nat) : Bool := if q.2.2.1 = 0 then atW q.2.2.2.2 (.constant (RN q.1) q.2.1 (Int32.ofInt q.2.2.2.1)) && decide (-2147483648 ≤ q.2.2.2.1 ∧ q.2.2.2.1 ≤ 2147483647) else atW q.2.2.2.2 (.constantLong (RN q.1) q.2.1 (Int64.ofInt q.2.2.2.1)) && decide (-9223372036854775808 ≤ q.2.2.2.1 ∧ q.2.2.2.1 ≤ 9223372036854775807)
theorem ckK_all : KCK.all ckK = true := by decide +kernel
def hasK (ow ix kd : Nat) (x : Int) : Bool := KCK.any (fun q => q.1 == ow && q.2.1 == ix && q.2.2.1 == kd && q.2.2.2.1 == x)
theorem okK_of {ow ix : Nat} {x : Int} (h : hasK ow ix 0 x = true) : Cond.constant (RN ow) ix (Int32.ofInt x) ∈ WT ∧ I32 x := by
  obtain ⟨q, hq, h2⟩ := List.any_eq_true.mp h
  simp only [Bool.and_eq_true, beq_iff_eq] at h2
  obtain ⟨⟨⟨rfl, rfl⟩, e3⟩, rfl⟩ := h2
  have h3 := List.all_eq_true.mp ckK_all q hq
  unfold ckK at h3
  rw [if_pos e3] at h3
  simp only [Bool.and_eq_true, decide_eq_true_eq] at h3
  exact ⟨atW_in h3.1, h3.2⟩
theorem okKl_of {ow ix : Nat} {x : Int} (h : hasK ow ix 1 x = true) : Cond.constantLong (RN ow) ix (Int64.ofInt x) ∈ WT ∧ I64 x := by
  obtain ⟨q, hq, h2⟩ := List.any_eq_true.mp h
  simp only [Bool.and_eq_true, beq_iff_eq] at h2
  obtain ⟨⟨⟨rfl, rfl⟩, e3⟩, rfl⟩ := h2
  have h3 := List.all_eq_true.mp ckK_all q hq
  unfold ckK at h3
  rw [if_neg (by omega)] at h3
  simp only [Bool.and_eq_true, decide_eq_true_eq] at h3
  exact ⟨atW_in h3.1, h3.2⟩
