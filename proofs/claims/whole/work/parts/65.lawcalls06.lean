set_option maxRecDepth 100000 in
theorem gL_law_X11_save : GoodIn wsL_law (wsV RL 200 RX11 yX11_save wsX11_save) := goodIn_app (goodIn_of _ (by decide +kernel)) ggL_law_X11_save
set_option maxRecDepth 100000 in
theorem ggL_law_X10_restore : GoodIn wsL_law wsX10_restore := goodIn_r _ [1245, 1229, 15, 16, 19, 18, 147, 1230, 1231, 1232, 14, 1233, 59, 152, 153, 60, 1234, 1235, 2, 1236, 1250, 1251, 1252, 1253, 1254, 1255, 1256, 1257, 1258, 1259, 1260, 1261, 1262, 1263, 1264, 1265, 1266, 1267, 1318, 1319, 1320, 1321] (by rfl) (by decide +kernel)
set_option maxRecDepth 100000 in
theorem gL_law_X10_restore : GoodIn wsL_law (wsV RL 201 RX10 yX10_restore wsX10_restore) := goodIn_app (goodIn_of _ (by decide +kernel)) ggL_law_X10_restore
set_option maxRecDepth 100000 in
theorem ggL_law_X11_restore : GoodIn wsL_law wsX11_restore := goodIn_r _ [1249, 1241, 109, 142, 111, 112, 166, 167, 168, 1268, 1269, 1270, 1271, 1272, 1273, 1274, 1275, 1276, 1277, 1278, 1279, 1280, 1281, 1282, 1283, 1284, 1285, 1286, 1287, 1288, 1289, 1290, 1291, 1292, 1293, 1294, 1295, 1296, 1297, 1298, 1299, 1300, 1301, 1302, 1303, 1304, 1305, 1306, 1307, 1308, 1309, 1310, 1311, 1312, 1313, 1314, 1315, 1316, 1317] (by rfl) (by decide +kernel)
set_option maxRecDepth 100000 in
theorem gL_law_X11_restore : GoodIn wsL_law (wsV RL 204 RX11 yX11_restore wsX11_restore) := goodIn_app (goodIn_of _ (by decide +kernel)) ggL_law_X11_restore
