theorem zWa_72 : zatl lw_tbl [863, 864, 865, 94, 96, 1063, 1065, 481, 1225, 485, 1233, 489, 1238, 504, 1254, 520] zW_72 = true := by decide +kernel
theorem zWa_73 : zatl lw_tbl [1262, 574, 1295, 578, 1302, 586, 1307, 648, 1354, 678, 1369, 738, 1394, 784, 1410, 807] zW_73 = true := by decide +kernel
theorem zWa_74 : zatl lw_tbl [1422, 812, 1426, 840, 1446, 848, 1450, 871, 1461, 886, 1473, 890, 1477, 912, 1485, 923] zW_74 = true := by decide +kernel
theorem zWa_75 : zatl lw_tbl [1492, 927, 1500, 932, 1504, 936, 1508, 940, 1512, 945, 1516, 950, 1217, 959, 1221, 967] zW_75 = true := by decide +kernel
theorem zWa_76 : zatl lw_tbl [1520, 975, 1524, 999, 1552, 1007, 1556, 1016, 1560, 1599, 1027, 1564, 1039, 1575, 1044, 1580] zW_76 = true := by decide +kernel
theorem zWa_77 : zatl lw_tbl [1052, 1584, 1059, 1595] zW_77 = true := by decide +kernel
