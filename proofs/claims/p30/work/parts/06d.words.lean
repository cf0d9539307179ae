set_option maxRecDepth 20000 in
theorem zWa_24 : zatl lw_tbl [1028, 1029, 1042, 1040, 1041, 1047, 1045, 1046, 1055, 1053, 1054, 1062, 1060, 1061, 510, 509] zW_24 = true := zatl_c rfl (zatl_c rfl (zatl_c rfl (zatl_c rfl (zatl_c rfl (zatl_c rfl (zatl_c rfl (zatl_c rfl (zatl_c rfl (zatl_c rfl (zatl_c rfl (zatl_c rfl (zatl_c rfl (zatl_c rfl (zatl_c rfl (zatl_c rfl (rfl))))))))))))))))
set_option maxRecDepth 20000 in
theorem zWa_25 : zatl lw_tbl [877, 876, 498, 497, 495, 494, 692, 691, 8, 684, 683, 881, 880, 24, 1034, 1033] zW_25 = true := zatl_c rfl (zatl_c rfl (zatl_c rfl (zatl_c rfl (zatl_c rfl (zatl_c rfl (zatl_c rfl (zatl_c rfl (zatl_c rfl (zatl_c rfl (zatl_c rfl (zatl_c rfl (zatl_c rfl (zatl_c rfl (zatl_c rfl (zatl_c rfl (rfl))))))))))))))))
set_option maxRecDepth 20000 in
theorem zWa_26 : zatl lw_tbl [30, 1232, 89, 1231, 1421, 1420, 1456, 1455, 1368, 1367, 1067, 1066, 1293, 1292, 37, 1220] zW_26 = true := zatl_c rfl (zatl_c rfl (zatl_c rfl (zatl_c rfl (zatl_c rfl (zatl_c rfl (zatl_c rfl (zatl_c rfl (zatl_c rfl (zatl_c rfl (zatl_c rfl (zatl_c rfl (zatl_c rfl (zatl_c rfl (zatl_c rfl (zatl_c rfl (rfl))))))))))))))))
set_option maxRecDepth 20000 in
theorem zWa_27 : zatl lw_tbl [1218, 1219, 1224, 1222, 1223, 1273, 1272, 33, 1279, 1278, 34, 1284, 1283, 35, 1247, 1246] zW_27 = true := zatl_c rfl (zatl_c rfl (zatl_c rfl (zatl_c rfl (zatl_c rfl (zatl_c rfl (zatl_c rfl (zatl_c rfl (zatl_c rfl (zatl_c rfl (zatl_c rfl (zatl_c rfl (zatl_c rfl (zatl_c rfl (zatl_c rfl (zatl_c rfl (rfl))))))))))))))))
set_option maxRecDepth 20000 in
theorem zWa_28 : zatl lw_tbl [1228, 1226, 1227, 1236, 1234, 1235, 1244, 1243, 1253, 1252, 31, 1241, 1239, 1240, 1257, 1255] zW_28 = true := zatl_c rfl (zatl_c rfl (zatl_c rfl (zatl_c rfl (zatl_c rfl (zatl_c rfl (zatl_c rfl (zatl_c rfl (zatl_c rfl (zatl_c rfl (zatl_c rfl (zatl_c rfl (zatl_c rfl (zatl_c rfl (zatl_c rfl (zatl_c rfl (rfl))))))))))))))))
set_option maxRecDepth 20000 in
theorem zWa_29 : zatl lw_tbl [1256, 1269, 1268, 32, 1288, 1287, 36, 1265, 1263, 1264, 1298, 1296, 1297, 1305, 1303, 1304] zW_29 = true := zatl_c rfl (zatl_c rfl (zatl_c rfl (zatl_c rfl (zatl_c rfl (zatl_c rfl (zatl_c rfl (zatl_c rfl (zatl_c rfl (zatl_c rfl (zatl_c rfl (zatl_c rfl (zatl_c rfl (zatl_c rfl (zatl_c rfl (zatl_c rfl (rfl))))))))))))))))
set_option maxRecDepth 20000 in
theorem zWa_30 : zatl lw_tbl [1342, 1341, 45, 1346, 1345, 46, 1350, 1349, 47, 1318, 1317, 39, 1322, 1321, 40, 1326] zW_30 = true := zatl_c rfl (zatl_c rfl (zatl_c rfl (zatl_c rfl (zatl_c rfl (zatl_c rfl (zatl_c rfl (zatl_c rfl (zatl_c rfl (zatl_c rfl (zatl_c rfl (zatl_c rfl (zatl_c rfl (zatl_c rfl (zatl_c rfl (zatl_c rfl (rfl))))))))))))))))
set_option maxRecDepth 20000 in
theorem zWa_31 : zatl lw_tbl [1325, 41, 1330, 1329, 42, 1334, 1333, 43, 1353, 1352, 1338, 1337, 44, 1314, 1313, 38] zW_31 = true := zatl_c rfl (zatl_c rfl (zatl_c rfl (zatl_c rfl (zatl_c rfl (zatl_c rfl (zatl_c rfl (zatl_c rfl (zatl_c rfl (zatl_c rfl (zatl_c rfl (zatl_c rfl (zatl_c rfl (zatl_c rfl (zatl_c rfl (zatl_c rfl (rfl))))))))))))))))
set_option maxRecDepth 20000 in
theorem zWa_32 : zatl lw_tbl [1310, 1308, 1309, 1361, 1360, 48, 1301, 1300, 1365, 1364, 49, 1357, 1355, 1356, 1393, 1392] zW_32 = true := zatl_c rfl (zatl_c rfl (zatl_c rfl (zatl_c rfl (zatl_c rfl (zatl_c rfl (zatl_c rfl (zatl_c rfl (zatl_c rfl (zatl_c rfl (zatl_c rfl (zatl_c rfl (zatl_c rfl (zatl_c rfl (zatl_c rfl (zatl_c rfl (rfl))))))))))))))))
set_option maxRecDepth 20000 in
theorem zWa_33 : zatl lw_tbl [54, 1389, 1388, 53, 1405, 1404, 56, 1409, 1408, 57, 1376, 1375, 50, 1385, 1384, 52] zW_33 = true := zatl_c rfl (zatl_c rfl (zatl_c rfl (zatl_c rfl (zatl_c rfl (zatl_c rfl (zatl_c rfl (zatl_c rfl (zatl_c rfl (zatl_c rfl (zatl_c rfl (zatl_c rfl (zatl_c rfl (zatl_c rfl (zatl_c rfl (zatl_c rfl (rfl))))))))))))))))
set_option maxRecDepth 20000 in
theorem zWa_34 : zatl lw_tbl [1381, 1380, 51, 1372, 1370, 1371, 1401, 1400, 55, 1397, 1395, 1396, 1418, 1417, 58, 1413] zW_34 = true := zatl_c rfl (zatl_c rfl (zatl_c rfl (zatl_c rfl (zatl_c rfl (zatl_c rfl (zatl_c rfl (zatl_c rfl (zatl_c rfl (zatl_c rfl (zatl_c rfl (zatl_c rfl (zatl_c rfl (zatl_c rfl (zatl_c rfl (zatl_c rfl (rfl))))))))))))))))
set_option maxRecDepth 20000 in
theorem zWa_35 : zatl lw_tbl [1411, 1412, 1425, 1423, 1424, 1437, 1436, 60, 1445, 1444, 62, 1441, 1440, 61, 1433, 1432] zW_35 = true := zatl_c rfl (zatl_c rfl (zatl_c rfl (zatl_c rfl (zatl_c rfl (zatl_c rfl (zatl_c rfl (zatl_c rfl (zatl_c rfl (zatl_c rfl (zatl_c rfl (zatl_c rfl (zatl_c rfl (zatl_c rfl (zatl_c rfl (zatl_c rfl (rfl))))))))))))))))
