set_option maxRecDepth 20000 in
theorem zWa_36 : zatl lw_tbl [59, 1429, 1427, 1428, 1449, 1447, 1448, 1460, 1459, 63, 1453, 1451, 1452, 1468, 1467, 64] zW_36 = true := zatl_c rfl (zatl_c rfl (zatl_c rfl (zatl_c rfl (zatl_c rfl (zatl_c rfl (zatl_c rfl (zatl_c rfl (zatl_c rfl (zatl_c rfl (zatl_c rfl (zatl_c rfl (zatl_c rfl (zatl_c rfl (zatl_c rfl (zatl_c rfl (rfl))))))))))))))))
set_option maxRecDepth 20000 in
theorem zWa_37 : zatl lw_tbl [1472, 1471, 65, 1464, 1462, 1463, 1476, 1474, 1475, 1484, 1483, 66, 1480, 1478, 1479, 1488] zW_37 = true := zatl_c rfl (zatl_c rfl (zatl_c rfl (zatl_c rfl (zatl_c rfl (zatl_c rfl (zatl_c rfl (zatl_c rfl (zatl_c rfl (zatl_c rfl (zatl_c rfl (zatl_c rfl (zatl_c rfl (zatl_c rfl (zatl_c rfl (zatl_c rfl (rfl))))))))))))))))
set_option maxRecDepth 20000 in
theorem zWa_38 : zatl lw_tbl [1486, 1487, 1499, 1498, 67, 1495, 1493, 1494, 1503, 1501, 1502, 1507, 1505, 1506, 1511, 1509] zW_38 = true := zatl_c rfl (zatl_c rfl (zatl_c rfl (zatl_c rfl (zatl_c rfl (zatl_c rfl (zatl_c rfl (zatl_c rfl (zatl_c rfl (zatl_c rfl (zatl_c rfl (zatl_c rfl (zatl_c rfl (zatl_c rfl (zatl_c rfl (zatl_c rfl (rfl))))))))))))))))
set_option maxRecDepth 20000 in
theorem zWa_39 : zatl lw_tbl [1510, 1515, 1513, 1514, 1519, 1517, 1518, 1531, 1530, 68, 1591, 1590, 75, 1523, 1521, 1522] zW_39 = true := zatl_c rfl (zatl_c rfl (zatl_c rfl (zatl_c rfl (zatl_c rfl (zatl_c rfl (zatl_c rfl (zatl_c rfl (zatl_c rfl (zatl_c rfl (zatl_c rfl (zatl_c rfl (zatl_c rfl (zatl_c rfl (zatl_c rfl (zatl_c rfl (rfl))))))))))))))))
set_option maxRecDepth 20000 in
theorem zWa_40 : zatl lw_tbl [1594, 1593, 1539, 1538, 70, 1535, 1534, 69, 1543, 1542, 71, 1547, 1546, 72, 1551, 1550] zW_40 = true := zatl_c rfl (zatl_c rfl (zatl_c rfl (zatl_c rfl (zatl_c rfl (zatl_c rfl (zatl_c rfl (zatl_c rfl (zatl_c rfl (zatl_c rfl (zatl_c rfl (zatl_c rfl (zatl_c rfl (zatl_c rfl (zatl_c rfl (zatl_c rfl (rfl))))))))))))))))
set_option maxRecDepth 20000 in
theorem zWa_41 : zatl lw_tbl [73, 1527, 1525, 1526, 1555, 1553, 1554, 1260, 1259, 1559, 1557, 1558, 1563, 1561, 1562, 1571] zW_41 = true := zatl_c rfl (zatl_c rfl (zatl_c rfl (zatl_c rfl (zatl_c rfl (zatl_c rfl (zatl_c rfl (zatl_c rfl (zatl_c rfl (zatl_c rfl (zatl_c rfl (zatl_c rfl (zatl_c rfl (zatl_c rfl (zatl_c rfl (zatl_c rfl (rfl))))))))))))))))
set_option maxRecDepth 20000 in
theorem zWa_42 : zatl lw_tbl [1570, 74, 1574, 1573, 1567, 1565, 1566, 1578, 1576, 1577, 1583, 1581, 1582, 1587, 1585, 1586] zW_42 = true := zatl_c rfl (zatl_c rfl (zatl_c rfl (zatl_c rfl (zatl_c rfl (zatl_c rfl (zatl_c rfl (zatl_c rfl (zatl_c rfl (zatl_c rfl (zatl_c rfl (zatl_c rfl (zatl_c rfl (zatl_c rfl (zatl_c rfl (zatl_c rfl (rfl))))))))))))))))
set_option maxRecDepth 20000 in
theorem zWa_43 : zatl lw_tbl [1598, 1596, 1597, 862, 93, 861, 1026, 92, 1025, 823, 822, 100, 101, 573, 572, 90] zW_43 = true := zatl_c rfl (zatl_c rfl (zatl_c rfl (zatl_c rfl (zatl_c rfl (zatl_c rfl (zatl_c rfl (zatl_c rfl (zatl_c rfl (zatl_c rfl (zatl_c rfl (zatl_c rfl (zatl_c rfl (zatl_c rfl (zatl_c rfl (zatl_c rfl (rfl))))))))))))))))
theorem zWa_44 : zatl lw_tbl [132, 436, 299, 272, 103, 133, 327, 113, 255, 178, 408, 348, 379, 95, 1064, 303] zW_44 = true := by decide +kernel
theorem zWa_45 : zatl lw_tbl [304, 310, 306, 993, 308, 983, 311, 312, 987, 991, 995, 276, 281, 282, 283, 284] zW_45 = true := by decide +kernel
theorem zWa_46 : zatl lw_tbl [279, 277, 567, 571, 958, 107, 207, 209, 108, 211, 110, 213, 217, 219, 112, 227] zW_46 = true := by decide +kernel
theorem zWa_47 : zatl lw_tbl [229, 220, 222, 225, 184, 187, 191, 528, 532, 536, 553, 554, 140, 144, 149, 153] zW_47 = true := by decide +kernel
