set_option maxRecDepth 100000 in
theorem gL_law_X10_build : GoodIn wsL_law (wsV RL 156 RX10 yX10_build wsX10_build) := goodIn_app (goodIn_of _ (by decide +kernel)) ggL_law_X10_build
set_option maxRecDepth 100000 in
theorem ggL_law_X11_build : GoodIn wsL_law wsX11_build := goodIn_r _ [1082, 1083, 137, 1084, 1085, 131, 133, 132, 134, 135, 136, 167, 112, 166, 159, 160, 5, 161, 1086, 1087, 1088, 1089, 1090, 1091, 1092, 1093, 327, 328, 329, 330, 109, 213, 214, 215, 1094, 1095, 1096, 1097, 1268, 1269, 1270, 1271, 1272, 1273, 1274, 1275, 1276, 1277, 1278, 1279, 1280, 1281, 1282, 1283, 1284, 1285, 1286, 1287, 1288, 1289, 1290, 1291, 1292, 1293, 1294, 1295, 1296, 1297, 1298, 1299, 1300, 1301, 1302, 1303, 1304, 1305, 1306, 1307, 1308, 1309, 1310, 1311, 1312, 1313, 1314, 1315, 1316, 1317] (by rfl) (by decide +kernel)
set_option maxRecDepth 100000 in
theorem gL_law_X11_build : GoodIn wsL_law (wsV RL 159 RX11 yX11_build wsX11_build) := goodIn_app (goodIn_of _ (by decide +kernel)) ggL_law_X11_build
set_option maxRecDepth 100000 in
theorem ggL_law_X10_resultStateCount : GoodIn wsL_law wsX10_resultStateCount := goodIn_r _ [1101, 1038, 52, 1039, 1250, 1251, 1252, 1253, 1254, 1255, 1256, 1257, 1258, 1259, 1260, 1261, 1262, 1263, 1264, 1265, 1266, 1267, 1346, 1347, 1348, 1349, 1350, 1351] (by rfl) (by decide +kernel)
set_option maxRecDepth 100000 in
theorem gL_law_X10_resultStateCount : GoodIn wsL_law (wsV RL 160 RX10 yX10_resultStateCount wsX10_resultStateCount) := goodIn_app (goodIn_of _ (by decide +kernel)) ggL_law_X10_resultStateCount
set_option maxRecDepth 100000 in
theorem ggL_law_X11_resultStateCount : GoodIn wsL_law wsX11_resultStateCount := goodIn_r _ [1105, 137, 1268, 1269, 1270, 1271, 1272, 1273, 1274, 1275, 1276, 1277, 1278, 1279, 1280, 1281, 1282, 1283, 1284, 1285, 1286, 1287, 1288, 1289, 1290, 1291, 1292, 1293, 1294, 1295, 1296, 1297, 1298, 1299, 1300, 1301, 1302, 1303, 1304, 1305, 1306, 1307, 1308, 1309, 1310, 1311, 1312, 1313, 1314, 1315, 1316, 1317] (by rfl) (by decide +kernel)
set_option maxRecDepth 100000 in
theorem gL_law_X11_resultStateCount : GoodIn wsL_law (wsV RL 163 RX11 yX11_resultStateCount wsX11_resultStateCount) := goodIn_app (goodIn_of _ (by decide +kernel)) ggL_law_X11_resultStateCount
set_option maxRecDepth 100000 in
theorem ggL_law_X10_resultInitials : GoodIn wsL_law wsX10_resultInitials := goodIn_r _ [1109, 1038, 52, 1110, 1250, 1251, 1252, 1253, 1254, 1255, 1256, 1257, 1258, 1259, 1260, 1261, 1262, 1263, 1264, 1265, 1266, 1267, 1346, 1347, 1348, 1349, 1350, 1351] (by rfl) (by decide +kernel)
set_option maxRecDepth 100000 in
theorem gL_law_X10_resultInitials : GoodIn wsL_law (wsV RL 164 RX10 yX10_resultInitials wsX10_resultInitials) := goodIn_app (goodIn_of _ (by decide +kernel)) ggL_law_X10_resultInitials
set_option maxRecDepth 100000 in
theorem ggL_law_X11_resultInitials : GoodIn wsL_law wsX11_resultInitials := goodIn_r _ [1114, 1084, 1268, 1269, 1270, 1271, 1272, 1273, 1274, 1275, 1276, 1277, 1278, 1279, 1280, 1281, 1282, 1283, 1284, 1285, 1286, 1287, 1288, 1289, 1290, 1291, 1292, 1293, 1294, 1295, 1296, 1297, 1298, 1299, 1300, 1301, 1302, 1303, 1304, 1305, 1306, 1307, 1308, 1309, 1310, 1311, 1312, 1313, 1314, 1315, 1316, 1317] (by rfl) (by decide +kernel)
set_option maxRecDepth 100000 in
theorem gL_law_X11_resultInitials : GoodIn wsL_law (wsV RL 167 RX11 yX11_resultInitials wsX11_resultInitials) := goodIn_app (goodIn_of _ (by decide +kernel)) ggL_law_X11_resultInitials
set_option maxRecDepth 100000 in
theorem ggL_law_X10_resultFinals : GoodIn wsL_law wsX10_resultFinals := goodIn_r _ [1118, 1038, 52, 1119, 1250, 1251, 1252, 1253, 1254, 1255, 1256, 1257, 1258, 1259, 1260, 1261, 1262, 1263, 1264, 1265, 1266, 1267, 1346, 1347, 1348, 1349, 1350, 1351] (by rfl) (by decide +kernel)
set_option maxRecDepth 100000 in
theorem gL_law_X10_resultFinals : GoodIn wsL_law (wsV RL 168 RX10 yX10_resultFinals wsX10_resultFinals) := goodIn_app (goodIn_of _ (by decide +kernel)) ggL_law_X10_resultFinals
set_option maxRecDepth 100000 in
theorem ggL_law_X11_resultFinals : GoodIn wsL_law wsX11_resultFinals := goodIn_r _ [1123, 1085, 1268, 1269, 1270, 1271, 1272, 1273, 1274, 1275, 1276, 1277, 1278, 1279, 1280, 1281, 1282, 1283, 1284, 1285, 1286, 1287, 1288, 1289, 1290, 1291, 1292, 1293, 1294, 1295, 1296, 1297, 1298, 1299, 1300, 1301, 1302, 1303, 1304, 1305, 1306, 1307, 1308, 1309, 1310, 1311, 1312, 1313, 1314, 1315, 1316, 1317] (by rfl) (by decide +kernel)
set_option maxRecDepth 100000 in
theorem gL_law_X11_resultFinals : GoodIn wsL_law (wsV RL 171 RX11 yX11_resultFinals wsX11_resultFinals) := goodIn_app (goodIn_of _ (by decide +kernel)) ggL_law_X11_resultFinals
set_option maxRecDepth 100000 in
theorem ggL_law_X10_resultSuccessors : GoodIn wsL_law wsX10_resultSuccessors := goodIn_r _ [1127, 1038, 52, 1128, 1129, 1130, 51, 1131, 1046, 97, 189, 2, 190, 1250, 1251, 1252, 1253, 1254, 1255, 1256, 1257, 1258, 1259, 1260, 1261, 1262, 1263, 1264, 1265, 1266, 1267, 1346, 1347, 1348, 1349, 1350, 1351] (by rfl) (by decide +kernel)
set_option maxRecDepth 100000 in
theorem gL_law_X10_resultSuccessors : GoodIn wsL_law (wsV RL 172 RX10 yX10_resultSuccessors wsX10_resultSuccessors) := goodIn_app (goodIn_of _ (by decide +kernel)) ggL_law_X10_resultSuccessors
set_option maxRecDepth 100000 in
theorem ggL_law_X11_resultSuccessors : GoodIn wsL_law wsX11_resultSuccessors := goodIn_r _ [1135, 137, 135, 210, 211, 5, 212, 159, 160, 161, 1268, 1269, 1270, 1271, 1272, 1273, 1274, 1275, 1276, 1277, 1278, 1279, 1280, 1281, 1282, 1283, 1284, 1285, 1286, 1287, 1288, 1289, 1290, 1291, 1292, 1293, 1294, 1295, 1296, 1297, 1298, 1299, 1300, 1301, 1302, 1303, 1304, 1305, 1306, 1307, 1308, 1309, 1310, 1311, 1312, 1313, 1314, 1315, 1316, 1317] (by rfl) (by decide +kernel)
set_option maxRecDepth 100000 in
theorem gL_law_X11_resultSuccessors : GoodIn wsL_law (wsV RL 176 RX11 yX11_resultSuccessors wsX11_resultSuccessors) := goodIn_app (goodIn_of _ (by decide +kernel)) ggL_law_X11_resultSuccessors
set_option maxRecDepth 100000 in
theorem ggL_law_X10_resultAmbiguity : GoodIn wsL_law wsX10_resultAmbiguity := goodIn_r _ [1139, 1038, 812, 52, 27, 1140, 1141, 1142, 51, 1143, 1045, 1144, 1046, 1051, 1145, 492, 493, 26, 494, 68, 461, 462, 463, 464, 456, 1146, 1129, 1130, 1131, 97, 189, 2, 190, 1250, 1251, 1252, 1253, 1254, 1255, 1256, 1257, 1258, 1259, 1260, 1261, 1262, 1263, 1264, 1265, 1266, 1267, 1346, 1347, 1348, 1349, 1350, 1351, 1324, 1325] (by rfl) (by decide +kernel)
set_option maxRecDepth 100000 in
theorem gL_law_X10_resultAmbiguity : GoodIn wsL_law (wsV RL 177 RX10 yX10_resultAmbiguity wsX10_resultAmbiguity) := goodIn_app (goodIn_of _ (by decide +kernel)) ggL_law_X10_resultAmbiguity
set_option maxRecDepth 100000 in
theorem ggL_law_X11_resultAmbiguity : GoodIn wsL_law wsX11_resultAmbiguity := goodIn_r _ [1150, 137, 874, 118, 1084, 469, 119, 135, 117, 1085, 213, 214, 5, 215, 1268, 1269, 1270, 1271, 1272, 1273, 1274, 1275, 1276, 1277, 1278, 1279, 1280, 1281, 1282, 1283, 1284, 1285, 1286, 1287, 1288, 1289, 1290, 1291, 1292, 1293, 1294, 1295, 1296, 1297, 1298, 1299, 1300, 1301, 1302, 1303, 1304, 1305, 1306, 1307, 1308, 1309, 1310, 1311, 1312, 1313, 1314, 1315, 1316, 1317] (by rfl) (by decide +kernel)
set_option maxRecDepth 100000 in
theorem gL_law_X11_resultAmbiguity : GoodIn wsL_law (wsV RL 180 RX11 yX11_resultAmbiguity wsX11_resultAmbiguity) := goodIn_app (goodIn_of _ (by decide +kernel)) ggL_law_X11_resultAmbiguity
set_option maxRecDepth 100000 in
theorem ggL_law_X10_keepWord : GoodIn wsL_law wsX10_keepWord := goodIn_r _ [1154, 27, 451, 1155, 1156, 1157, 2, 1158, 30, 1159, 1160, 1161, 55, 1162, 103, 1163, 1164, 104, 1165, 492, 493, 26, 494, 68, 461, 462, 463, 464, 456, 1250, 1251, 1252, 1253, 1254, 1255, 1256, 1257, 1258, 1259, 1260, 1261, 1262, 1263, 1264, 1265, 1266, 1267, 1324, 1325, 1352, 1353, 1354] (by rfl) (by decide +kernel)
set_option maxRecDepth 100000 in
theorem gL_law_X10_keepWord : GoodIn wsL_law (wsV RL 181 RX10 yX10_keepWord wsX10_keepWord) := goodIn_app (goodIn_of _ (by decide +kernel)) ggL_law_X10_keepWord
set_option maxRecDepth 100000 in
theorem ggL_law_X11_keepWord : GoodIn wsL_law wsX11_keepWord := goodIn_r _ [1169, 138, 139, 469, 140, 117, 1170, 1171, 5, 1172, 1268, 1269, 1270, 1271, 1272, 1273, 1274, 1275, 1276, 1277, 1278, 1279, 1280, 1281, 1282, 1283, 1284, 1285, 1286, 1287, 1288, 1289, 1290, 1291, 1292, 1293, 1294, 1295, 1296, 1297, 1298, 1299, 1300, 1301, 1302, 1303, 1304, 1305, 1306, 1307, 1308, 1309, 1310, 1311, 1312, 1313, 1314, 1315, 1316, 1317] (by rfl) (by decide +kernel)
set_option maxRecDepth 100000 in
theorem gL_law_X11_keepWord : GoodIn wsL_law (wsV RL 184 RX11 yX11_keepWord wsX11_keepWord) := goodIn_app (goodIn_of _ (by decide +kernel)) ggL_law_X11_keepWord
set_option maxRecDepth 100000 in
theorem ggL_law_X10_keepCounts : GoodIn wsL_law wsX10_keepCounts := goodIn_r _ [1176, 40, 15, 32, 1155, 1156, 1157, 2, 1158, 30, 1177, 1178, 1179, 39, 1180, 508, 509, 510, 511, 77, 512, 78, 200, 201, 527, 528, 529, 530, 531, 519, 520, 521, 522, 548, 549, 550, 551, 514, 515, 516, 517, 518, 197, 198, 14, 199, 59, 60, 523, 524, 525, 526, 1181, 1182, 1183, 55, 1184, 103, 1164, 104, 1250, 1251, 1252, 1253, 1254, 1255, 1256, 1257, 1258, 1259, 1260, 1261, 1262, 1263, 1264, 1265, 1266, 1267, 1328, 1329, 1330, 1331, 1318, 1319, 1320, 1321, 1352, 1353, 1354] (by rfl) (by decide +kernel)
set_option maxRecDepth 100000 in
theorem gL_law_X10_keepCounts : GoodIn wsL_law (wsV RL 185 RX10 yX10_keepCounts wsX10_keepCounts) := goodIn_app (goodIn_of _ (by decide +kernel)) ggL_law_X10_keepCounts
set_option maxRecDepth 100000 in
theorem ggL_law_X11_keepCounts : GoodIn wsL_law wsX11_keepCounts := goodIn_r _ [1188, 1189, 141, 138, 139, 140, 1170, 1171, 5, 1172, 159, 160, 161, 559, 560, 561, 562, 118, 167, 112, 119, 109, 166, 213, 214, 215, 563, 564, 565, 566, 567, 1268, 1269, 1270, 1271, 1272, 1273, 1274, 1275, 1276, 1277, 1278, 1279, 1280, 1281, 1282, 1283, 1284, 1285, 1286, 1287, 1288, 1289, 1290, 1291, 1292, 1293, 1294, 1295, 1296, 1297, 1298, 1299, 1300, 1301, 1302, 1303, 1304, 1305, 1306, 1307, 1308, 1309, 1310, 1311, 1312, 1313, 1314, 1315, 1316, 1317] (by rfl) (by decide +kernel)
set_option maxRecDepth 100000 in
theorem gL_law_X11_keepCounts : GoodIn wsL_law (wsV RL 188 RX11 yX11_keepCounts wsX11_keepCounts) := goodIn_app (goodIn_of _ (by decide +kernel)) ggL_law_X11_keepCounts
set_option maxRecDepth 100000 in
theorem ggL_law_X10_useWord : GoodIn wsL_law wsX10_useWord := goodIn_r _ [1193, 1194, 27, 451, 1155, 1156, 1157, 2, 1158, 30, 1195, 1196, 1197, 55, 1198, 1163, 1164, 1199, 1200, 1201, 1202, 104, 1203, 1204, 1205, 1206, 1207, 453, 454, 26, 455, 456, 68, 457, 458, 459, 460, 461, 462, 463, 464, 1352, 1353, 1354, 1250, 1251, 1252, 1253, 1254, 1255, 1256, 1257, 1258, 1259, 1260, 1261, 1262, 1263, 1264, 1265, 1266, 1267, 1324, 1325] (by rfl) (by decide +kernel)
set_option maxRecDepth 100000 in
theorem gL_law_X10_useWord : GoodIn wsL_law (wsV RL 189 RX10 yX10_useWord wsX10_useWord) := goodIn_app (goodIn_of _ (by decide +kernel)) ggL_law_X10_useWord
set_option maxRecDepth 100000 in
theorem ggL_law_X11_useWord : GoodIn wsL_law wsX11_useWord := goodIn_r _ [1211, 138, 139, 469, 117, 140, 1170, 1171, 5, 1172, 1268, 1269, 1270, 1271, 1272, 1273, 1274, 1275, 1276, 1277, 1278, 1279, 1280, 1281, 1282, 1283, 1284, 1285, 1286, 1287, 1288, 1289, 1290, 1291, 1292, 1293, 1294, 1295, 1296, 1297, 1298, 1299, 1300, 1301, 1302, 1303, 1304, 1305, 1306, 1307, 1308, 1309, 1310, 1311, 1312, 1313, 1314, 1315, 1316, 1317] (by rfl) (by decide +kernel)
set_option maxRecDepth 100000 in
theorem gL_law_X11_useWord : GoodIn wsL_law (wsV RL 192 RX11 yX11_useWord wsX11_useWord) := goodIn_app (goodIn_of _ (by decide +kernel)) ggL_law_X11_useWord
set_option maxRecDepth 100000 in
theorem ggL_law_X10_shelfElement : GoodIn wsL_law wsX10_shelfElement := goodIn_r _ [1215, 1216, 1194, 1217, 1155, 1156, 1157, 2, 1158, 30, 1218, 1204, 1205, 55, 1206, 1164, 104, 1219, 1200, 1201, 1202, 1203, 1352, 1353, 1354, 1250, 1251, 1252, 1253, 1254, 1255, 1256, 1257, 1258, 1259, 1260, 1261, 1262, 1263, 1264, 1265, 1266, 1267] (by rfl) (by decide +kernel)
set_option maxRecDepth 100000 in
theorem gL_law_X10_shelfElement : GoodIn wsL_law (wsV RL 193 RX10 yX10_shelfElement wsX10_shelfElement) := goodIn_app (goodIn_of _ (by decide +kernel)) ggL_law_X10_shelfElement
set_option maxRecDepth 100000 in
theorem ggL_law_X11_shelfElement : GoodIn wsL_law wsX11_shelfElement := goodIn_r _ [1223, 567, 138, 1224, 139, 140, 1170, 1171, 5, 1172, 159, 160, 161, 1268, 1269, 1270, 1271, 1272, 1273, 1274, 1275, 1276, 1277, 1278, 1279, 1280, 1281, 1282, 1283, 1284, 1285, 1286, 1287, 1288, 1289, 1290, 1291, 1292, 1293, 1294, 1295, 1296, 1297, 1298, 1299, 1300, 1301, 1302, 1303, 1304, 1305, 1306, 1307, 1308, 1309, 1310, 1311, 1312, 1313, 1314, 1315, 1316, 1317] (by rfl) (by decide +kernel)
set_option maxRecDepth 100000 in
theorem gL_law_X11_shelfElement : GoodIn wsL_law (wsV RL 196 RX11 yX11_shelfElement wsX11_shelfElement) := goodIn_app (goodIn_of _ (by decide +kernel)) ggL_law_X11_shelfElement
set_option maxRecDepth 100000 in
theorem ggL_law_X10_save : GoodIn wsL_law wsX10_save := goodIn_r _ [1228, 16, 15, 18, 19, 1229, 147, 1230, 1231, 1232, 14, 1233, 59, 152, 153, 60, 1234, 1235, 2, 1236, 1250, 1251, 1252, 1253, 1254, 1255, 1256, 1257, 1258, 1259, 1260, 1261, 1262, 1263, 1264, 1265, 1266, 1267, 1318, 1319, 1320, 1321] (by rfl) (by decide +kernel)
set_option maxRecDepth 100000 in
theorem gL_law_X10_save : GoodIn wsL_law (wsV RL 197 RX10 yX10_save wsX10_save) := goodIn_app (goodIn_of _ (by decide +kernel)) ggL_law_X10_save
set_option maxRecDepth 100000 in
theorem ggL_law_X11_save : GoodIn wsL_law wsX11_save := goodIn_r _ [1240, 1241, 142, 109, 111, 112, 166, 167, 1268, 1269, 1270, 1271, 1272, 1273, 1274, 1275, 1276, 1277, 1278, 1279, 1280, 1281, 1282, 1283, 1284, 1285, 1286, 1287, 1288, 1289, 1290, 1291, 1292, 1293, 1294, 1295, 1296, 1297, 1298, 1299, 1300, 1301, 1302, 1303, 1304, 1305, 1306, 1307, 1308, 1309, 1310, 1311, 1312, 1313, 1314, 1315, 1316, 1317] (by rfl) (by decide +kernel)
