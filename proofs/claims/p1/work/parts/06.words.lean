def zWp : List (List Nat) := [[302, 84, 301, 986, 984, 985, 974, 972, 973, 1058, 1057, 1006, 1004, 1005, 982, 980], [981, 990, 989, 28, 998, 997, 29, 275, 83, 274, 566, 564, 565, 570, 569, 1], [957, 955, 956, 966, 964, 965, 106, 78, 105, 531, 529, 530, 535, 533, 534, 539], [537, 538, 503, 501, 502, 527, 525, 526, 543, 541, 542, 552, 550, 551, 562, 560], [561, 919, 917, 918, 657, 655, 656, 712, 710, 711, 820, 818, 819, 827, 826, 19], [835, 834, 21, 831, 830, 20, 839, 838, 22, 847, 845, 846, 855, 853, 854, 859], [857, 858, 869, 868, 23, 136, 80, 135, 696, 694, 695, 700, 698, 699, 558, 556], [557, 720, 718, 719, 724, 722, 723, 716, 714, 715, 730, 728, 729, 736, 734, 735], [766, 764, 765, 770, 769, 13, 774, 773, 14, 779, 778, 15, 330, 85, 329, 688], [686, 687, 704, 702, 703, 708, 707, 9, 885, 883, 884, 116, 79, 115, 597, 595], [596, 624, 622, 623, 631, 629, 630, 643, 641, 642, 647, 645, 646, 664, 662, 663], [667, 666, 673, 672, 258, 82, 257, 585, 583, 584, 593, 591, 592, 601, 600, 2], [605, 604, 3, 609, 608, 4, 620, 619, 6, 613, 612, 5, 636, 635, 7, 616], [615, 627, 626, 639, 638, 181, 81, 180, 805, 803, 804, 411, 88, 410, 1015, 1013], [1014, 1023, 1021, 1022, 514, 512, 513, 1051, 1049, 1050, 1038, 1036, 1037, 351, 86, 350], [745, 743, 744, 762, 761, 12, 783, 782, 16, 758, 757, 11, 748, 747, 752, 751], [10, 382, 87, 381, 791, 789, 790, 796, 795, 17, 800, 799, 18, 98, 77, 97], [484, 482, 483, 488, 486, 487, 492, 490, 491, 507, 505, 506, 518, 517, 0, 523], [521, 522, 577, 575, 576, 581, 579, 580, 589, 587, 588, 651, 649, 650, 681, 679], [680, 741, 739, 740, 787, 785, 786, 810, 808, 809, 815, 813, 814, 843, 841, 842], [851, 849, 850, 874, 872, 873, 889, 887, 888, 893, 891, 892, 897, 896, 25, 901], [900, 26, 908, 907, 27, 915, 913, 914, 926, 924, 925, 930, 928, 929, 935, 933], [934, 939, 937, 938, 943, 941, 942, 948, 946, 947, 953, 951, 952, 962, 960, 961], [970, 968, 969, 978, 976, 977, 1002, 1000, 1001, 1010, 1008, 1009, 1019, 1017, 1018, 1030], [1028, 1029, 1042, 1040, 1041, 1047, 1045, 1046, 1055, 1053, 1054, 1062, 1060, 1061, 510, 509], [877, 876, 498, 497, 495, 494, 692, 691, 8, 684, 683, 881, 880, 24, 1034, 1033], [30, 1232, 89, 1231, 1421, 1420, 1456, 1455, 1368, 1367, 1067, 1066, 1293, 1292, 37, 1220], [1218, 1219, 1224, 1222, 1223, 1273, 1272, 33, 1279, 1278, 34, 1284, 1283, 35, 1247, 1246], [1228, 1226, 1227, 1236, 1234, 1235, 1244, 1243, 1253, 1252, 31, 1241, 1239, 1240, 1257, 1255], [1256, 1269, 1268, 32, 1288, 1287, 36, 1265, 1263, 1264, 1298, 1296, 1297, 1305, 1303, 1304], [1342, 1341, 45, 1346, 1345, 46, 1350, 1349, 47, 1318, 1317, 39, 1322, 1321, 40, 1326], [1325, 41, 1330, 1329, 42, 1334, 1333, 43, 1353, 1352, 1338, 1337, 44, 1314, 1313, 38], [1310, 1308, 1309, 1361, 1360, 48, 1301, 1300, 1365, 1364, 49, 1357, 1355, 1356, 1393, 1392], [54, 1389, 1388, 53, 1405, 1404, 56, 1409, 1408, 57, 1376, 1375, 50, 1385, 1384, 52], [1381, 1380, 51, 1372, 1370, 1371, 1401, 1400, 55, 1397, 1395, 1396, 1418, 1417, 58, 1413], [1411, 1412, 1425, 1423, 1424, 1437, 1436, 60, 1445, 1444, 62, 1441, 1440, 61, 1433, 1432], [59, 1429, 1427, 1428, 1449, 1447, 1448, 1460, 1459, 63, 1453, 1451, 1452, 1468, 1467, 64], [1472, 1471, 65, 1464, 1462, 1463, 1476, 1474, 1475, 1484, 1483, 66, 1480, 1478, 1479, 1488], [1486, 1487, 1499, 1498, 67, 1495, 1493, 1494, 1503, 1501, 1502, 1507, 1505, 1506, 1511, 1509], [1510, 1515, 1513, 1514, 1519, 1517, 1518, 1531, 1530, 68, 1591, 1590, 75, 1523, 1521, 1522], [1594, 1593, 1539, 1538, 70, 1535, 1534, 69, 1543, 1542, 71, 1547, 1546, 72, 1551, 1550], [73, 1527, 1525, 1526, 1555, 1553, 1554, 1260, 1259, 1559, 1557, 1558, 1563, 1561, 1562, 1571], [1570, 74, 1574, 1573, 1567, 1565, 1566, 1578, 1576, 1577, 1583, 1581, 1582, 1587, 1585, 1586], [1598, 1596, 1597, 862, 93, 861, 1026, 92, 1025, 823, 822, 100, 101, 573, 572, 90], [132, 436, 299, 272, 103, 133, 327, 113, 255, 178, 408, 348, 379, 95, 1064, 303], [304, 310, 306, 993, 308, 983, 311, 312, 987, 991, 995, 276, 281, 282, 283, 284], [279, 277, 567, 571, 958, 107, 207, 209, 108, 211, 110, 213, 217, 219, 112, 227], [229, 220, 222, 225, 184, 187, 191, 528, 532, 536, 553, 554, 140, 144, 149, 153], [156, 159, 161, 194, 195, 555, 658, 660, 659, 91, 661, 674, 676, 675, 677, 670], [669, 713, 726, 727, 732, 119, 733, 821, 824, 832, 828, 836, 860, 866, 137, 160], [138, 155, 697, 141, 145, 151, 157, 193, 725, 717, 721, 731, 737, 767, 771, 776], [775, 331, 332, 333, 419, 423, 334, 336, 705, 215, 709, 190, 147, 117, 120, 122], [121, 118, 632, 665, 668, 671, 259, 260, 261, 594, 263, 598, 633, 602, 621, 640], [644, 606, 610, 637, 614, 617, 625, 628, 182, 183, 186, 412, 413, 422, 415, 417], [420, 1024, 352, 355, 357, 358, 359, 360, 353, 361, 746, 362, 749, 754, 755, 759], [763, 780, 143, 148, 152, 158, 753, 383, 386, 392, 384, 393, 388, 792, 793, 797], [224, 214, 802, 806, 189, 146, 390, 801, 99, 102, 104, 438, 254, 439, 271, 440], [298, 441, 326, 442, 347, 443, 378, 380, 444, 405, 445, 407, 446, 447, 448, 449], [450, 451, 221, 208, 210, 223, 212, 139, 142, 493, 500, 508, 414, 511, 421, 515], [424, 496, 519, 524, 540, 548, 549, 559, 563, 582, 262, 230, 590, 228, 652, 653], [216, 654, 682, 226, 685, 689, 701, 335, 337, 150, 154, 742, 356, 788, 389, 391], [387, 185, 188, 811, 816, 817, 218, 844, 852, 856, 870, 875, 878, 882, 894, 898], [905, 902, 693, 904, 909, 910, 911, 916, 920, 921, 922, 931, 192, 162, 944, 949], [278, 954, 280, 963, 971, 979, 1003, 1011, 1012, 1020, 1031, 1035, 1043, 418, 1048, 416], [305, 1056, 307, 309, 499, 1068, 1069, 1070, 1071, 1072, 1078, 1079, 1080, 1082, 1089, 1090], [1095, 1096, 1097, 1100, 1101, 1102, 1103, 1106, 1107, 1109, 1110, 1114, 1115, 1116, 1117, 1083], [1074, 1073, 1075, 1230, 1076, 1077, 1248, 1229, 1237, 1245, 1249, 1242, 1250, 1258, 1261, 1270], [1274, 1275, 1276, 1280, 1281, 1289, 1266, 1285, 1290, 1294, 1299, 1306, 1081, 1085, 1086, 1084], [1087, 1339, 1319, 1347, 1323, 1327, 1331, 1335, 1088, 1343, 1315, 1351, 1311, 1366, 1358, 1362], [1091, 1092, 1390, 1406, 1093, 1094, 1382, 1386, 1373, 1377, 1378, 1402, 1398, 1098, 1099, 1419], [1415, 1414, 1434, 1438, 1442, 1430, 1454, 1457, 1465, 1469, 1481, 1489, 1490, 1491, 1496, 1104], [1105, 1108, 1111, 1536, 1532, 1113, 1540, 1112, 1544, 1548, 1528, 1568, 1572, 1579, 1588, 1592], [863, 864, 865, 94, 96, 1063, 1065, 481, 1225, 485, 1233, 489, 1238, 504, 1254, 520], [1262, 574, 1295, 578, 1302, 586, 1307, 648, 1354, 678, 1369, 738, 1394, 784, 1410, 807], [1422, 812, 1426, 840, 1446, 848, 1450, 871, 1461, 886, 1473, 890, 1477, 912, 1485, 923], [1492, 927, 1500, 932, 1504, 936, 1508, 940, 1512, 945, 1516, 950, 1217, 959, 1221, 967], [1520, 975, 1524, 999, 1552, 1007, 1556, 1016, 1560, 1599, 1027, 1564, 1039, 1575, 1044, 1580], [1052, 1584, 1059, 1595]]
def zNp : List Nat := [114, 134, 179, 544, 546, 354, 385, 256, 273, 300, 328, 349, 409, 437]
abbrev zCw : List (List Cond) := [u_ws RX0 TX0 6, u_ws RX1 TX1 6, u_ws RX2 TX2 11, u_ws RX3 TX3 7, u_ws RX4 TX4 4, u_ws RX5 TX5 4, u_ws RX6 TX6 3, u_ws RX7 TX7 5, u_ws RX8 TX8 5, u_ws RX9 TX9 7, u_ws RX10 TX10 5, u_ws RX11 TX11 14, u_ws RX12 TX12 49]
def zCp : List (List Nat) := [[313, 315, 317, 319, 321, 323], [285, 287, 289, 291, 293, 295], [231, 233, 235, 237, 239, 241, 243, 245, 247, 249, 251], [163, 165, 167, 169, 171, 173, 175], [338, 340, 342, 344], [123, 125, 127, 129], [264, 266, 268], [196, 198, 200, 202, 204], [425, 427, 429, 431, 433], [363, 365, 367, 369, 371, 373, 375], [394, 396, 398, 400, 402], [452, 454, 456, 458, 460, 462, 464, 466, 468, 470, 472, 474, 476, 478], [1118, 1120, 1122, 1124, 1126, 1128, 1130, 1132, 1134, 1136, 1138, 1140, 1142, 1144, 1146, 1148, 1150, 1152, 1154, 1156, 1158, 1160, 1162, 1164, 1166, 1168, 1170, 1172, 1174, 1176, 1178, 1180, 1182, 1184, 1186, 1188, 1190, 1192, 1194, 1196, 1198, 1200, 1202, 1204, 1206, 1208, 1210, 1212, 1214]]
def zWall : List Cond := zW.flatten ++ zCw.flatten
def zat (l : List Cond) (p : Nat) (w : Cond) : Bool := decide (zget l p = some w)
def zatl (l : List Cond) : List Nat → List Cond → Bool
  | [], [] => true
  | p :: ps, w :: ws => zat l p w && zatl l ps ws
  | _, _ => false
def zatll (l : List Cond) : List (List Nat) → List (List Cond) → Bool
  | [], [] => true
  | p :: ps, w :: ws => zatl l p w && zatll l ps ws
  | _, _ => false
theorem zget_mem6 {α : Type} : ∀ {l : List α} {i : Nat} {x : α}, zget l i = some x → x ∈ l
  | [], i, x, h => by simp [zget] at h
  | a :: l, 0, x, h => by simp only [zget, Option.some.injEq] at h; subst h; exact List.mem_cons_self
  | _ :: l, i + 1, x, h => List.mem_cons_of_mem _ (zget_mem6 (l := l) (i := i) h)
theorem zatl_in {l : List Cond} : ∀ {ps : List Nat} {ws : List Cond}, zatl l ps ws = true → ∀ w ∈ ws, w ∈ l
  | [], [], _, w, h => by simp at h
  | p :: ps, x :: ws, hc, w, h => by
    simp only [zatl, Bool.and_eq_true, zat, decide_eq_true_eq] at hc
    rcases List.mem_cons.mp h with rfl | h
    · exact zget_mem6 hc.1
    · exact zatl_in hc.2 w h
  | [], _ :: _, hc, _, _ => by simp [zatl] at hc
  | _ :: _, [], _, w, h => by simp at h
theorem zatll_in {l : List Cond} : ∀ {ps : List (List Nat)} {ws : List (List Cond)}, zatll l ps ws = true → ∀ w ∈ ws.flatten, w ∈ l
  | [], [], _, w, h => by simp at h
  | p :: ps, x :: ws, hc, w, h => by
    simp only [zatll, Bool.and_eq_true] at hc
    rw [List.flatten_cons] at h
    rcases List.mem_append.mp h with h | h
    · exact zatl_in hc.1 w h
    · exact zatll_in hc.2 w h
  | [], _ :: _, hc, _, _ => by simp [zatll] at hc
  | _ :: _, [], _, w, h => by simp at h
theorem zW_at : zatll lw_tbl zWp zW = true := by decide +kernel
theorem zC_at : zatll lw_tbl zCp zCw = true := by decide +kernel
theorem zN_at : zatl lw_tbl zNp zN = true := by decide +kernel
theorem zWall_in : ∀ w ∈ zWall, w ∈ lw_tbl := fun w h => (List.mem_append.mp h).elim (zatll_in zW_at w) (zatll_in zC_at w)
theorem zN_in : ∀ w ∈ zN, w ∈ lw_tbl := zatl_in zN_at
theorem zWall_good : zWall.all goodWord = true := by decide +kernel
theorem zN_tabs : zN.all (fun w => w.onTables) = true := by decide +kernel
theorem zin_0 : ∀ w ∈ u_ws RX0 TX0 6, w ∈ zWall := fun w h => List.mem_append_right _ (List.mem_flatten.mpr ⟨_, List.mem_of_getElem? (i := 0) rfl, h⟩)
theorem zin_1 : ∀ w ∈ u_ws RX1 TX1 6, w ∈ zWall := fun w h => List.mem_append_right _ (List.mem_flatten.mpr ⟨_, List.mem_of_getElem? (i := 1) rfl, h⟩)
theorem zin_2 : ∀ w ∈ u_ws RX2 TX2 11, w ∈ zWall := fun w h => List.mem_append_right _ (List.mem_flatten.mpr ⟨_, List.mem_of_getElem? (i := 2) rfl, h⟩)
theorem zin_3 : ∀ w ∈ u_ws RX3 TX3 7, w ∈ zWall := fun w h => List.mem_append_right _ (List.mem_flatten.mpr ⟨_, List.mem_of_getElem? (i := 3) rfl, h⟩)
theorem zin_4 : ∀ w ∈ u_ws RX4 TX4 4, w ∈ zWall := fun w h => List.mem_append_right _ (List.mem_flatten.mpr ⟨_, List.mem_of_getElem? (i := 4) rfl, h⟩)
theorem zin_5 : ∀ w ∈ u_ws RX5 TX5 4, w ∈ zWall := fun w h => List.mem_append_right _ (List.mem_flatten.mpr ⟨_, List.mem_of_getElem? (i := 5) rfl, h⟩)
theorem zin_6 : ∀ w ∈ u_ws RX6 TX6 3, w ∈ zWall := fun w h => List.mem_append_right _ (List.mem_flatten.mpr ⟨_, List.mem_of_getElem? (i := 6) rfl, h⟩)
theorem zin_7 : ∀ w ∈ u_ws RX7 TX7 5, w ∈ zWall := fun w h => List.mem_append_right _ (List.mem_flatten.mpr ⟨_, List.mem_of_getElem? (i := 7) rfl, h⟩)
theorem zin_8 : ∀ w ∈ u_ws RX8 TX8 5, w ∈ zWall := fun w h => List.mem_append_right _ (List.mem_flatten.mpr ⟨_, List.mem_of_getElem? (i := 8) rfl, h⟩)
theorem zin_9 : ∀ w ∈ u_ws RX9 TX9 7, w ∈ zWall := fun w h => List.mem_append_right _ (List.mem_flatten.mpr ⟨_, List.mem_of_getElem? (i := 9) rfl, h⟩)
theorem zin_10 : ∀ w ∈ u_ws RX10 TX10 5, w ∈ zWall := fun w h => List.mem_append_right _ (List.mem_flatten.mpr ⟨_, List.mem_of_getElem? (i := 10) rfl, h⟩)
theorem zin_11 : ∀ w ∈ u_ws RX11 TX11 14, w ∈ zWall := fun w h => List.mem_append_right _ (List.mem_flatten.mpr ⟨_, List.mem_of_getElem? (i := 11) rfl, h⟩)
theorem zin_12 : ∀ w ∈ u_ws RX12 TX12 49, w ∈ zWall := fun w h => List.mem_append_right _ (List.mem_flatten.mpr ⟨_, List.mem_of_getElem? (i := 12) rfl, h⟩)
theorem zw_in {p : Nat} {w : Cond} (h : zis p w = true) : w ∈ zWall := by
  simp only [zis, decide_eq_true_eq, zw] at h
  cases h1 : zget zW (p / 16) with
  | none => simp [h1] at h
  | some g =>
    simp only [h1] at h
    exact List.mem_append_left _ (List.mem_flatten.mpr ⟨g, zget_mem6 h1, zget_mem6 h⟩)
/-- a method's own words -/
def zmchk (mi : Nat) (M : zM) : Bool := match M with
  | (y, cc, L, r, n, st, p0, p1, p2, p3) => zis p0 (.code y cc L r) && zis p1 (.initialized y.cls) && (bif st then zis p2 (.static y) else zis p2 (.instanceMethod y) && (decide (y.name = "<init>") || zis p3 (.selects y.cls y y))) && decide (plainName y.cls = true) && decide (y.cls ≠ "java/lang/invoke/MethodHandle" ∧ y.cls ≠ "java/lang/invoke/VarHandle") && decide ((parseMethodDescriptor y.desc).map (fun d => d.parameters.length) = some n) && decide (L ≤ 20) && decide (zL mi = L)
def zmG : Nat → List zM → Bool
  | _, [] => true
  | mi, M :: r => (decide (mi = zlaw) || zmchk mi M) && zmG (mi + 1) r
def zmA : Nat → List (List zM) → Bool
  | _, [] => true
  | mi, g :: r => zmG mi g && zmA (mi + 16) r
theorem zmA_ok : zmA 0 zma = true := by decide +kernel
theorem zmG_at : ∀ {g : List zM} {mi j : Nat} {M : zM}, zmG mi g = true → zget g j = some M → mi + j = zlaw ∨ zmchk (mi + j) M = true
  | [], _, _, _, _, h => by simp [zget] at h
  | x :: g, mi, 0, t, hc, h => by
    simp only [zget, Option.some.injEq] at h
    subst h
    simp only [zmG, Bool.and_eq_true, Bool.or_eq_true, decide_eq_true_eq] at hc
    exact hc.1
  | x :: g, mi, j + 1, t, hc, h => by
    simp only [zmG, Bool.and_eq_true] at hc
    have := zmG_at (g := g) (mi := mi + 1) (j := j) (M := t) hc.2 h
    rw [show mi + (j + 1) = mi + 1 + j by omega]
    exact this
theorem zmA_at : ∀ {a : List (List zM)} {mi q : Nat} {g : List zM}, zmA mi a = true → zget a q = some g → zmG (mi + 16 * q) g = true
  | [], _, _, _, _, h => by simp [zget] at h
  | x :: a, mi, 0, g, hc, h => by
    simp only [zget, Option.some.injEq] at h
    subst h
    simp only [zmA, Bool.and_eq_true] at hc
    exact hc.1
  | x :: a, mi, q + 1, g, hc, h => by
    simp only [zmA, Bool.and_eq_true] at hc
    have := zmA_at (a := a) (mi := mi + 16) (q := q) (g := g) hc.2 h
    rw [show mi + 16 * (q + 1) = mi + 16 + 16 * q by omega]
    exact this
theorem zm_ok {mi : Nat} {M : zM} (h : zm mi = some M) (hl : mi ≠ zlaw) : zmchk mi M = true := by
  unfold zm at h
  cases h1 : zget zma (mi / 16) with
  | none => simp [h1] at h
  | some g =>
    simp only [h1] at h
    have a := zmG_at (zmA_at zmA_ok h1) h
    rw [show 0 + 16 * (mi / 16) + mi % 16 = mi by omega] at a
    exact a.resolve_left hl
