set_option maxRecDepth 100000 in
theorem ggL_law_X10_init : GoodIn wsL_law wsX10_init := goodIn_r _ [8, 9, 10, 11, 12, 13, 14, 15, 16, 17, 18, 19, 20, 21, 22, 23, 24, 25, 26, 27, 28, 29, 30, 31, 32, 33, 34, 35, 36, 37, 38, 39, 40, 41, 42, 43, 44, 45, 46, 47, 48, 49, 50, 51, 52, 53, 54, 55, 56, 57, 58, 59, 60, 61, 62, 63, 64, 65, 66, 67, 68, 69, 70, 71, 72, 73, 74, 75, 76, 77, 78, 79, 80, 81, 82, 83, 84, 85, 86, 87, 88, 89, 90, 91, 92, 93, 94, 95, 96, 97, 98, 99, 100, 101, 102, 103, 104, 1318, 1319, 1320, 1321, 1250, 1251, 1252, 1253, 1254, 1255, 1256, 1257, 1258, 1259, 1260, 1261, 1262, 1263, 1264, 1265, 1266, 1267, 1322, 1323, 1324, 1325, 1326, 1327, 1328, 1329, 1330, 1331, 1332, 1333, 1334, 1335, 1336, 1337, 1338, 1339, 1340, 1341, 1342, 1343, 1344, 1345, 1346, 1347, 1348, 1349, 1350, 1351, 1352, 1353, 1354] (by rfl) (by decide +kernel)
set_option maxRecDepth 100000 in
theorem gL_law_X10_init : GoodIn wsL_law (wsX10_init) := ggL_law_X10_init
set_option maxRecDepth 100000 in
theorem ggL_law_X11_init : GoodIn wsL_law wsX11_init := goodIn_r _ [107, 108, 10, 11, 17, 109, 110, 111, 112, 113, 114, 115, 116, 117, 31, 118, 119, 120, 121, 122, 123, 124, 125, 126, 127, 128, 129, 130, 131, 132, 133, 134, 135, 136, 137, 138, 139, 140, 141, 142, 1268, 1269, 1270, 1271, 1272, 1273, 1274, 1275, 1276, 1277, 1278, 1279, 1280, 1281, 1282, 1283, 1284, 1285, 1286, 1287, 1288, 1289, 1290, 1291, 1292, 1293, 1294, 1295, 1296, 1297, 1298, 1299, 1300, 1301, 1302, 1303, 1304, 1305, 1306, 1307, 1308, 1309, 1310, 1311, 1312, 1313, 1314, 1315, 1316, 1317] (by rfl) (by decide +kernel)
set_option maxRecDepth 100000 in
theorem gL_law_X11_init : GoodIn wsL_law (wsX11_init) := ggL_law_X11_init
set_option maxRecDepth 100000 in
theorem ggL_law_X10_reset : GoodIn wsL_law wsX10_reset := goodIn_r _ [146, 15, 147, 148, 149, 150, 14, 151, 59, 152, 153, 60, 1250, 1251, 1252, 1253, 1254, 1255, 1256, 1257, 1258, 1259, 1260, 1261, 1262, 1263, 1264, 1265, 1266, 1267, 1318, 1319, 1320, 1321] (by rfl) (by decide +kernel)
set_option maxRecDepth 100000 in
theorem gL_law_X10_reset : GoodIn wsL_law (wsV RL 13 RX10 yX10_reset wsX10_reset) := goodIn_app (goodIn_of _ (by decide +kernel)) ggL_law_X10_reset
set_option maxRecDepth 100000 in
theorem ggL_law_X11_reset : GoodIn wsL_law wsX11_reset := goodIn_r _ [157, 158, 112, 159, 160, 5, 161, 162, 163, 164, 165, 166, 167, 109, 168, 1268, 1269, 1270, 1271, 1272, 1273, 1274, 1275, 1276, 1277, 1278, 1279, 1280, 1281, 1282, 1283, 1284, 1285, 1286, 1287, 1288, 1289, 1290, 1291, 1292, 1293, 1294, 1295, 1296, 1297, 1298, 1299, 1300, 1301, 1302, 1303, 1304, 1305, 1306, 1307, 1308, 1309, 1310, 1311, 1312, 1313, 1314, 1315, 1316, 1317] (by rfl) (by decide +kernel)
set_option maxRecDepth 100000 in
theorem gL_law_X11_reset : GoodIn wsL_law (wsV RL 17 RX11 yX11_reset wsX11_reset) := goodIn_app (goodIn_of _ (by decide +kernel)) ggL_law_X11_reset
set_option maxRecDepth 100000 in
theorem ggL_law_X10_stateCount : GoodIn wsL_law wsX10_stateCount := goodIn_r _ [172, 15, 147, 1250, 1251, 1252, 1253, 1254, 1255, 1256, 1257, 1258, 1259, 1260, 1261, 1262, 1263, 1264, 1265, 1266, 1267, 1318, 1319, 1320, 1321] (by rfl) (by decide +kernel)
set_option maxRecDepth 100000 in
theorem gL_law_X10_stateCount : GoodIn wsL_law (wsV RL 18 RX10 yX10_stateCount wsX10_stateCount) := goodIn_app (goodIn_of _ (by decide +kernel)) ggL_law_X10_stateCount
set_option maxRecDepth 100000 in
theorem ggL_law_X11_stateCount : GoodIn wsL_law wsX11_stateCount := goodIn_r _ [176, 112, 1268, 1269, 1270, 1271, 1272, 1273, 1274, 1275, 1276, 1277, 1278, 1279, 1280, 1281, 1282, 1283, 1284, 1285, 1286, 1287, 1288, 1289, 1290, 1291, 1292, 1293, 1294, 1295, 1296, 1297, 1298, 1299, 1300, 1301, 1302, 1303, 1304, 1305, 1306, 1307, 1308, 1309, 1310, 1311, 1312, 1313, 1314, 1315, 1316, 1317] (by rfl) (by decide +kernel)
set_option maxRecDepth 100000 in
theorem gL_law_X11_stateCount : GoodIn wsL_law (wsV RL 22 RX11 yX11_stateCount wsX11_stateCount) := goodIn_app (goodIn_of _ (by decide +kernel)) ggL_law_X11_stateCount
set_option maxRecDepth 100000 in
theorem ggL_law_X10_addTransition : GoodIn wsL_law wsX10_addTransition := goodIn_r _ [180, 15, 181, 182, 183, 14, 184, 185, 186, 187, 188, 59, 189, 2, 190, 191, 192, 193, 194, 60, 195, 196, 197, 198, 199, 200, 201, 1250, 1251, 1252, 1253, 1254, 1255, 1256, 1257, 1258, 1259, 1260, 1261, 1262, 1263, 1264, 1265, 1266, 1267, 1318, 1319, 1320, 1321] (by rfl) (by decide +kernel)
set_option maxRecDepth 100000 in
theorem gL_law_X10_addTransition : GoodIn wsL_law (wsV RL 23 RX10 yX10_addTransition wsX10_addTransition) := goodIn_app (goodIn_of _ (by decide +kernel)) ggL_law_X10_addTransition
set_option maxRecDepth 100000 in
theorem ggL_law_X11_addTransition : GoodIn wsL_law wsX11_addTransition := goodIn_r _ [205, 109, 168, 206, 207, 208, 5, 209, 112, 210, 211, 212, 213, 214, 215, 1268, 1269, 1270, 1271, 1272, 1273, 1274, 1275, 1276, 1277, 1278, 1279, 1280, 1281, 1282, 1283, 1284, 1285, 1286, 1287, 1288, 1289, 1290, 1291, 1292, 1293, 1294, 1295, 1296, 1297, 1298, 1299, 1300, 1301, 1302, 1303, 1304, 1305, 1306, 1307, 1308, 1309, 1310, 1311, 1312, 1313, 1314, 1315, 1316, 1317] (by rfl) (by decide +kernel)
set_option maxRecDepth 100000 in
theorem gL_law_X11_addTransition : GoodIn wsL_law (wsV RL 27 RX11 yX11_addTransition wsX11_addTransition) := goodIn_app (goodIn_of _ (by decide +kernel)) ggL_law_X11_addTransition
set_option maxRecDepth 100000 in
theorem ggL_law_X10_removeTransition : GoodIn wsL_law wsX10_removeTransition := goodIn_r _ [219, 15, 181, 182, 183, 14, 184, 185, 186, 187, 188, 59, 189, 2, 190, 220, 221, 222, 223, 60, 195, 196, 197, 198, 199, 200, 201, 1250, 1251, 1252, 1253, 1254, 1255, 1256, 1257, 1258, 1259, 1260, 1261, 1262, 1263, 1264, 1265, 1266, 1267, 1318, 1319, 1320, 1321] (by rfl) (by decide +kernel)
set_option maxRecDepth 100000 in
theorem gL_law_X10_removeTransition : GoodIn wsL_law (wsV RL 28 RX10 yX10_removeTransition wsX10_removeTransition) := goodIn_app (goodIn_of _ (by decide +kernel)) ggL_law_X10_removeTransition
set_option maxRecDepth 100000 in
theorem ggL_law_X11_removeTransition : GoodIn wsL_law wsX11_removeTransition := goodIn_r _ [227, 109, 168, 206, 207, 208, 5, 209, 112, 210, 211, 212, 213, 214, 215, 1268, 1269, 1270, 1271, 1272, 1273, 1274, 1275, 1276, 1277, 1278, 1279, 1280, 1281, 1282, 1283, 1284, 1285, 1286, 1287, 1288, 1289, 1290, 1291, 1292, 1293, 1294, 1295, 1296, 1297, 1298, 1299, 1300, 1301, 1302, 1303, 1304, 1305, 1306, 1307, 1308, 1309, 1310, 1311, 1312, 1313, 1314, 1315, 1316, 1317] (by rfl) (by decide +kernel)
set_option maxRecDepth 100000 in
theorem gL_law_X11_removeTransition : GoodIn wsL_law (wsV RL 31 RX11 yX11_removeTransition wsX11_removeTransition) := goodIn_app (goodIn_of _ (by decide +kernel)) ggL_law_X11_removeTransition
set_option maxRecDepth 100000 in
theorem ggL_law_X10_transitionCount : GoodIn wsL_law wsX10_transitionCount := goodIn_r _ [231, 15, 232, 233, 234, 14, 235, 60, 236, 237, 238, 239, 240, 241, 242, 1250, 1251, 1252, 1253, 1254, 1255, 1256, 1257, 1258, 1259, 1260, 1261, 1262, 1263, 1264, 1265, 1266, 1267, 1318, 1319, 1320, 1321] (by rfl) (by decide +kernel)
set_option maxRecDepth 100000 in
theorem gL_law_X10_transitionCount : GoodIn wsL_law (wsV RL 32 RX10 yX10_transitionCount wsX10_transitionCount) := goodIn_app (goodIn_of _ (by decide +kernel)) ggL_law_X10_transitionCount
set_option maxRecDepth 100000 in
theorem ggL_law_X11_transitionCount : GoodIn wsL_law wsX11_transitionCount := goodIn_r _ [246, 109, 1268, 1269, 1270, 1271, 1272, 1273, 1274, 1275, 1276, 1277, 1278, 1279, 1280, 1281, 1282, 1283, 1284, 1285, 1286, 1287, 1288, 1289, 1290, 1291, 1292, 1293, 1294, 1295, 1296, 1297, 1298, 1299, 1300, 1301, 1302, 1303, 1304, 1305, 1306, 1307, 1308, 1309, 1310, 1311, 1312, 1313, 1314, 1315, 1316, 1317] (by rfl) (by decide +kernel)
set_option maxRecDepth 100000 in
theorem gL_law_X11_transitionCount : GoodIn wsL_law (wsV RL 35 RX11 yX11_transitionCount wsX11_transitionCount) := goodIn_app (goodIn_of _ (by decide +kernel)) ggL_law_X11_transitionCount
set_option maxRecDepth 100000 in
theorem ggL_law_X10_setInitial : GoodIn wsL_law wsX10_setInitial := goodIn_r _ [250, 15, 251, 252, 186, 187, 14, 188, 59, 253, 254, 2, 255, 1250, 1251, 1252, 1253, 1254, 1255, 1256, 1257, 1258, 1259, 1260, 1261, 1262, 1263, 1264, 1265, 1266, 1267, 1318, 1319, 1320, 1321] (by rfl) (by decide +kernel)
set_option maxRecDepth 100000 in
theorem gL_law_X10_setInitial : GoodIn wsL_law (wsV RL 36 RX10 yX10_setInitial wsX10_setInitial) := goodIn_app (goodIn_of _ (by decide +kernel)) ggL_law_X10_setInitial
set_option maxRecDepth 100000 in
theorem ggL_law_X11_setInitial : GoodIn wsL_law wsX11_setInitial := goodIn_r _ [259, 166, 168, 206, 207, 208, 5, 209, 112, 1268, 1269, 1270, 1271, 1272, 1273, 1274, 1275, 1276, 1277, 1278, 1279, 1280, 1281, 1282, 1283, 1284, 1285, 1286, 1287, 1288, 1289, 1290, 1291, 1292, 1293, 1294, 1295, 1296, 1297, 1298, 1299, 1300, 1301, 1302, 1303, 1304, 1305, 1306, 1307, 1308, 1309, 1310, 1311, 1312, 1313, 1314, 1315, 1316, 1317] (by rfl) (by decide +kernel)
set_option maxRecDepth 100000 in
theorem gL_law_X11_setInitial : GoodIn wsL_law (wsV RL 40 RX11 yX11_setInitial wsX11_setInitial) := goodIn_app (goodIn_of _ (by decide +kernel)) ggL_law_X11_setInitial
set_option maxRecDepth 100000 in
theorem ggL_law_X10_setFinal : GoodIn wsL_law wsX10_setFinal := goodIn_r _ [263, 15, 264, 252, 186, 187, 14, 188, 59, 253, 254, 2, 255, 1250, 1251, 1252, 1253, 1254, 1255, 1256, 1257, 1258, 1259, 1260, 1261, 1262, 1263, 1264, 1265, 1266, 1267, 1318, 1319, 1320, 1321] (by rfl) (by decide +kernel)
set_option maxRecDepth 100000 in
theorem gL_law_X10_setFinal : GoodIn wsL_law (wsV RL 41 RX10 yX10_setFinal wsX10_setFinal) := goodIn_app (goodIn_of _ (by decide +kernel)) ggL_law_X10_setFinal
set_option maxRecDepth 100000 in
theorem ggL_law_X11_setFinal : GoodIn wsL_law wsX11_setFinal := goodIn_r _ [268, 167, 168, 206, 207, 208, 5, 209, 112, 1268, 1269, 1270, 1271, 1272, 1273, 1274, 1275, 1276, 1277, 1278, 1279, 1280, 1281, 1282, 1283, 1284, 1285, 1286, 1287, 1288, 1289, 1290, 1291, 1292, 1293, 1294, 1295, 1296, 1297, 1298, 1299, 1300, 1301, 1302, 1303, 1304, 1305, 1306, 1307, 1308, 1309, 1310, 1311, 1312, 1313, 1314, 1315, 1316, 1317] (by rfl) (by decide +kernel)
set_option maxRecDepth 100000 in
theorem gL_law_X11_setFinal : GoodIn wsL_law (wsV RL 44 RX11 yX11_setFinal wsX11_setFinal) := goodIn_app (goodIn_of _ (by decide +kernel)) ggL_law_X11_setFinal
set_option maxRecDepth 100000 in
theorem ggL_law_X10_initialStates : GoodIn wsL_law wsX10_initialStates := goodIn_r _ [272, 15, 251, 1250, 1251, 1252, 1253, 1254, 1255, 1256, 1257, 1258, 1259, 1260, 1261, 1262, 1263, 1264, 1265, 1266, 1267, 1318, 1319, 1320, 1321] (by rfl) (by decide +kernel)
set_option maxRecDepth 100000 in
theorem gL_law_X10_initialStates : GoodIn wsL_law (wsV RL 45 RX10 yX10_initialStates wsX10_initialStates) := goodIn_app (goodIn_of _ (by decide +kernel)) ggL_law_X10_initialStates
set_option maxRecDepth 100000 in
theorem ggL_law_X11_initialStates : GoodIn wsL_law wsX11_initialStates := goodIn_r _ [276, 166, 1268, 1269, 1270, 1271, 1272, 1273, 1274, 1275, 1276, 1277, 1278, 1279, 1280, 1281, 1282, 1283, 1284, 1285, 1286, 1287, 1288, 1289, 1290, 1291, 1292, 1293, 1294, 1295, 1296, 1297, 1298, 1299, 1300, 1301, 1302, 1303, 1304, 1305, 1306, 1307, 1308, 1309, 1310, 1311, 1312, 1313, 1314, 1315, 1316, 1317] (by rfl) (by decide +kernel)
set_option maxRecDepth 100000 in
theorem gL_law_X11_initialStates : GoodIn wsL_law (wsV RL 48 RX11 yX11_initialStates wsX11_initialStates) := goodIn_app (goodIn_of _ (by decide +kernel)) ggL_law_X11_initialStates
set_option maxRecDepth 100000 in
theorem ggL_law_X10_finalStates : GoodIn wsL_law wsX10_finalStates := goodIn_r _ [280, 15, 264, 1250, 1251, 1252, 1253, 1254, 1255, 1256, 1257, 1258, 1259, 1260, 1261, 1262, 1263, 1264, 1265, 1266, 1267, 1318, 1319, 1320, 1321] (by rfl) (by decide +kernel)
set_option maxRecDepth 100000 in
theorem gL_law_X10_finalStates : GoodIn wsL_law (wsV RL 49 RX10 yX10_finalStates wsX10_finalStates) := goodIn_app (goodIn_of _ (by decide +kernel)) ggL_law_X10_finalStates
set_option maxRecDepth 100000 in
theorem ggL_law_X11_finalStates : GoodIn wsL_law wsX11_finalStates := goodIn_r _ [284, 167, 1268, 1269, 1270, 1271, 1272, 1273, 1274, 1275, 1276, 1277, 1278, 1279, 1280, 1281, 1282, 1283, 1284, 1285, 1286, 1287, 1288, 1289, 1290, 1291, 1292, 1293, 1294, 1295, 1296, 1297, 1298, 1299, 1300, 1301, 1302, 1303, 1304, 1305, 1306, 1307, 1308, 1309, 1310, 1311, 1312, 1313, 1314, 1315, 1316, 1317] (by rfl) (by decide +kernel)
set_option maxRecDepth 100000 in
theorem gL_law_X11_finalStates : GoodIn wsL_law (wsV RL 52 RX11 yX11_finalStates wsX11_finalStates) := goodIn_app (goodIn_of _ (by decide +kernel)) ggL_law_X11_finalStates
set_option maxRecDepth 100000 in
theorem ggL_law_X10_successors : GoodIn wsL_law wsX10_successors := goodIn_r _ [288, 15, 252, 186, 187, 14, 188, 59, 289, 189, 2, 190, 290, 197, 198, 199, 60, 1250, 1251, 1252, 1253, 1254, 1255, 1256, 1257, 1258, 1259, 1260, 1261, 1262, 1263, 1264, 1265, 1266, 1267, 1318, 1319, 1320, 1321] (by rfl) (by decide +kernel)
