set_option maxRecDepth 100000 in
theorem gL_law_X10_successors : GoodIn wsL_law (wsV RL 53 RX10 yX10_successors wsX10_successors) := goodIn_app (goodIn_of _ (by decide +kernel)) ggL_law_X10_successors
set_option maxRecDepth 100000 in
theorem ggL_law_X11_successors : GoodIn wsL_law wsX11_successors := goodIn_r _ [294, 109, 206, 207, 208, 5, 209, 112, 210, 211, 212, 1268, 1269, 1270, 1271, 1272, 1273, 1274, 1275, 1276, 1277, 1278, 1279, 1280, 1281, 1282, 1283, 1284, 1285, 1286, 1287, 1288, 1289, 1290, 1291, 1292, 1293, 1294, 1295, 1296, 1297, 1298, 1299, 1300, 1301, 1302, 1303, 1304, 1305, 1306, 1307, 1308, 1309, 1310, 1311, 1312, 1313, 1314, 1315, 1316, 1317] (by rfl) (by decide +kernel)
set_option maxRecDepth 100000 in
theorem gL_law_X11_successors : GoodIn wsL_law (wsV RL 57 RX11 yX11_successors wsX11_successors) := goodIn_app (goodIn_of _ (by decide +kernel)) ggL_law_X11_successors
set_option maxRecDepth 100000 in
theorem ggL_law_X10_usefulStates : GoodIn wsL_law wsX10_usefulStates := goodIn_r _ [298, 15, 299, 300, 301, 14, 302, 152, 153, 303, 304, 305, 306, 59, 200, 2, 201, 307, 308, 309, 310, 196, 197, 198, 199, 60, 311, 312, 313, 314, 1250, 1251, 1252, 1253, 1254, 1255, 1256, 1257, 1258, 1259, 1260, 1261, 1262, 1263, 1264, 1265, 1266, 1267, 1318, 1319, 1320, 1321] (by rfl) (by decide +kernel)
set_option maxRecDepth 100000 in
theorem gL_law_X10_usefulStates : GoodIn wsL_law (wsV RL 58 RX10 yX10_usefulStates wsX10_usefulStates) := goodIn_app (goodIn_of _ (by decide +kernel)) ggL_law_X10_usefulStates
set_option maxRecDepth 100000 in
theorem ggL_law_X11_usefulStates : GoodIn wsL_law wsX11_usefulStates := goodIn_r _ [318, 319, 320, 321, 5, 322, 166, 112, 167, 323, 324, 325, 326, 327, 328, 329, 330, 109, 213, 214, 215, 1268, 1269, 1270, 1271, 1272, 1273, 1274, 1275, 1276, 1277, 1278, 1279, 1280, 1281, 1282, 1283, 1284, 1285, 1286, 1287, 1288, 1289, 1290, 1291, 1292, 1293, 1294, 1295, 1296, 1297, 1298, 1299, 1300, 1301, 1302, 1303, 1304, 1305, 1306, 1307, 1308, 1309, 1310, 1311, 1312, 1313, 1314, 1315, 1316, 1317] (by rfl) (by decide +kernel)
set_option maxRecDepth 100000 in
theorem gL_law_X11_usefulStates : GoodIn wsL_law (wsV RL 61 RX11 yX11_usefulStates wsX11_usefulStates) := goodIn_app (goodIn_of _ (by decide +kernel)) ggL_law_X11_usefulStates
set_option maxRecDepth 100000 in
theorem ggL_law_X10_trim : GoodIn wsL_law wsX10_trim := goodIn_r _ [334, 15, 147, 299, 300, 301, 14, 302, 152, 153, 303, 304, 305, 306, 59, 200, 2, 201, 307, 308, 309, 310, 196, 197, 198, 199, 60, 311, 312, 313, 314, 148, 149, 150, 151, 335, 336, 337, 338, 339, 340, 341, 342, 343, 344, 345, 1250, 1251, 1252, 1253, 1254, 1255, 1256, 1257, 1258, 1259, 1260, 1261, 1262, 1263, 1264, 1265, 1266, 1267, 1318, 1319, 1320, 1321] (by rfl) (by decide +kernel)
set_option maxRecDepth 100000 in
theorem gL_law_X10_trim : GoodIn wsL_law (wsV RL 62 RX10 yX10_trim wsX10_trim) := goodIn_app (goodIn_of _ (by decide +kernel)) ggL_law_X10_trim
set_option maxRecDepth 100000 in
theorem ggL_law_X11_trim : GoodIn wsL_law wsX11_trim := goodIn_r _ [349, 112, 113, 166, 167, 114, 109, 319, 320, 321, 5, 322, 323, 324, 325, 326, 327, 328, 329, 330, 213, 214, 215, 350, 351, 352, 353, 162, 163, 164, 165, 168, 1268, 1269, 1270, 1271, 1272, 1273, 1274, 1275, 1276, 1277, 1278, 1279, 1280, 1281, 1282, 1283, 1284, 1285, 1286, 1287, 1288, 1289, 1290, 1291, 1292, 1293, 1294, 1295, 1296, 1297, 1298, 1299, 1300, 1301, 1302, 1303, 1304, 1305, 1306, 1307, 1308, 1309, 1310, 1311, 1312, 1313, 1314, 1315, 1316, 1317] (by rfl) (by decide +kernel)
set_option maxRecDepth 100000 in
theorem gL_law_X11_trim : GoodIn wsL_law (wsV RL 65 RX11 yX11_trim wsX11_trim) := goodIn_app (goodIn_of _ (by decide +kernel)) ggL_law_X11_trim
set_option maxRecDepth 100000 in
theorem ggL_law_X10_randomize : GoodIn wsL_law wsX10_randomize := goodIn_r _ [357, 15, 358, 359, 360, 14, 361, 59, 362, 363, 364, 365, 366, 367, 368, 369, 192, 193, 194, 60, 195, 182, 183, 184, 185, 186, 187, 188, 189, 2, 190, 196, 197, 198, 199, 200, 201, 232, 233, 234, 235, 236, 237, 238, 239, 240, 241, 242, 1250, 1251, 1252, 1253, 1254, 1255, 1256, 1257, 1258, 1259, 1260, 1261, 1262, 1263, 1264, 1265, 1266, 1267, 1318, 1319, 1320, 1321] (by rfl) (by decide +kernel)
set_option maxRecDepth 100000 in
theorem gL_law_X10_randomize : GoodIn wsL_law (wsV RL 66 RX10 yX10_randomize wsX10_randomize) := goodIn_app (goodIn_of _ (by decide +kernel)) ggL_law_X10_randomize
set_option maxRecDepth 100000 in
theorem ggL_law_X11_randomize : GoodIn wsL_law wsX11_randomize := goodIn_r _ [373, 374, 375, 112, 109, 168, 159, 160, 5, 161, 376, 377, 378, 379, 380, 381, 244, 245, 246, 1268, 1269, 1270, 1271, 1272, 1273, 1274, 1275, 1276, 1277, 1278, 1279, 1280, 1281, 1282, 1283, 1284, 1285, 1286, 1287, 1288, 1289, 1290, 1291, 1292, 1293, 1294, 1295, 1296, 1297, 1298, 1299, 1300, 1301, 1302, 1303, 1304, 1305, 1306, 1307, 1308, 1309, 1310, 1311, 1312, 1313, 1314, 1315, 1316, 1317] (by rfl) (by decide +kernel)
set_option maxRecDepth 100000 in
theorem gL_law_X11_randomize : GoodIn wsL_law (wsV RL 69 RX11 yX11_randomize wsX11_randomize) := goodIn_app (goodIn_of _ (by decide +kernel)) ggL_law_X11_randomize
set_option maxRecDepth 100000 in
theorem ggL_law_X10_append : GoodIn wsL_law wsX10_append := goodIn_r _ [385, 23, 386, 387, 388, 389, 22, 390, 391, 64, 1250, 1251, 1252, 1253, 1254, 1255, 1256, 1257, 1258, 1259, 1260, 1261, 1262, 1263, 1264, 1265, 1266, 1267, 1322, 1323] (by rfl) (by decide +kernel)
set_option maxRecDepth 100000 in
theorem gL_law_X10_append : GoodIn wsL_law (wsV RL 70 RX10 yX10_append wsX10_append) := goodIn_app (goodIn_of _ (by decide +kernel)) ggL_law_X10_append
set_option maxRecDepth 100000 in
theorem ggL_law_X11_append : GoodIn wsL_law wsX11_append := goodIn_r _ [395, 396, 397, 398, 115, 159, 160, 5, 161, 1268, 1269, 1270, 1271, 1272, 1273, 1274, 1275, 1276, 1277, 1278, 1279, 1280, 1281, 1282, 1283, 1284, 1285, 1286, 1287, 1288, 1289, 1290, 1291, 1292, 1293, 1294, 1295, 1296, 1297, 1298, 1299, 1300, 1301, 1302, 1303, 1304, 1305, 1306, 1307, 1308, 1309, 1310, 1311, 1312, 1313, 1314, 1315, 1316, 1317] (by rfl) (by decide +kernel)
set_option maxRecDepth 100000 in
theorem gL_law_X11_append : GoodIn wsL_law (wsV RL 73 RX11 yX11_append wsX11_append) := goodIn_app (goodIn_of _ (by decide +kernel)) ggL_law_X11_append
set_option maxRecDepth 100000 in
theorem ggL_law_X10_parse : GoodIn wsL_law wsX10_parse := goodIn_r _ [402, 23, 15, 147, 386, 403, 404, 405, 22, 406, 391, 407, 408, 409, 410, 64, 411, 412, 413, 189, 2, 190, 414, 415, 416, 417, 418, 419, 420, 421, 422, 423, 424, 192, 193, 14, 194, 60, 195, 182, 183, 184, 185, 186, 187, 188, 59, 196, 197, 198, 199, 200, 201, 1250, 1251, 1252, 1253, 1254, 1255, 1256, 1257, 1258, 1259, 1260, 1261, 1262, 1263, 1264, 1265, 1266, 1267, 1318, 1319, 1320, 1321, 1322, 1323] (by rfl) (by decide +kernel)
set_option maxRecDepth 100000 in
theorem gL_law_X10_parse : GoodIn wsL_law (wsV RL 74 RX10 yX10_parse wsX10_parse) := goodIn_app (goodIn_of _ (by decide +kernel)) ggL_law_X10_parse
set_option maxRecDepth 100000 in
theorem ggL_law_X11_parse : GoodIn wsL_law wsX11_parse := goodIn_r _ [428, 398, 429, 430, 116, 166, 167, 109, 168, 431, 432, 433, 5, 434, 435, 436, 437, 438, 115, 439, 440, 441, 442, 159, 160, 161, 443, 444, 445, 446, 112, 1268, 1269, 1270, 1271, 1272, 1273, 1274, 1275, 1276, 1277, 1278, 1279, 1280, 1281, 1282, 1283, 1284, 1285, 1286, 1287, 1288, 1289, 1290, 1291, 1292, 1293, 1294, 1295, 1296, 1297, 1298, 1299, 1300, 1301, 1302, 1303, 1304, 1305, 1306, 1307, 1308, 1309, 1310, 1311, 1312, 1313, 1314, 1315, 1316, 1317] (by rfl) (by decide +kernel)
set_option maxRecDepth 100000 in
theorem gL_law_X11_parse : GoodIn wsL_law (wsV RL 77 RX11 yX11_parse wsX11_parse) := goodIn_app (goodIn_of _ (by decide +kernel)) ggL_law_X11_parse
set_option maxRecDepth 100000 in
theorem ggL_law_X10_appendLetter : GoodIn wsL_law wsX10_appendLetter := goodIn_r _ [450, 27, 451, 289, 189, 2, 190, 452, 453, 454, 26, 455, 456, 68, 457, 458, 459, 460, 461, 462, 463, 464, 1250, 1251, 1252, 1253, 1254, 1255, 1256, 1257, 1258, 1259, 1260, 1261, 1262, 1263, 1264, 1265, 1266, 1267, 1324, 1325] (by rfl) (by decide +kernel)
set_option maxRecDepth 100000 in
theorem gL_law_X10_appendLetter : GoodIn wsL_law (wsV RL 78 RX10 yX10_appendLetter wsX10_appendLetter) := goodIn_app (goodIn_of _ (by decide +kernel)) ggL_law_X10_appendLetter
set_option maxRecDepth 100000 in
theorem ggL_law_X11_appendLetter : GoodIn wsL_law wsX11_appendLetter := goodIn_r _ [468, 469, 117, 210, 211, 5, 212, 1268, 1269, 1270, 1271, 1272, 1273, 1274, 1275, 1276, 1277, 1278, 1279, 1280, 1281, 1282, 1283, 1284, 1285, 1286, 1287, 1288, 1289, 1290, 1291, 1292, 1293, 1294, 1295, 1296, 1297, 1298, 1299, 1300, 1301, 1302, 1303, 1304, 1305, 1306, 1307, 1308, 1309, 1310, 1311, 1312, 1313, 1314, 1315, 1316, 1317] (by rfl) (by decide +kernel)
set_option maxRecDepth 100000 in
theorem gL_law_X11_appendLetter : GoodIn wsL_law (wsV RL 81 RX11 yX11_appendLetter wsX11_appendLetter) := goodIn_app (goodIn_of _ (by decide +kernel)) ggL_law_X11_appendLetter
set_option maxRecDepth 100000 in
theorem ggL_law_X10_clearWord : GoodIn wsL_law wsX10_clearWord := goodIn_r _ [473, 27, 451, 1250, 1251, 1252, 1253, 1254, 1255, 1256, 1257, 1258, 1259, 1260, 1261, 1262, 1263, 1264, 1265, 1266, 1267, 1324, 1325] (by rfl) (by decide +kernel)
set_option maxRecDepth 100000 in
theorem gL_law_X10_clearWord : GoodIn wsL_law (wsV RL 82 RX10 yX10_clearWord wsX10_clearWord) := goodIn_app (goodIn_of _ (by decide +kernel)) ggL_law_X10_clearWord
set_option maxRecDepth 100000 in
theorem ggL_law_X11_clearWord : GoodIn wsL_law wsX11_clearWord := goodIn_r _ [477, 469, 1268, 1269, 1270, 1271, 1272, 1273, 1274, 1275, 1276, 1277, 1278, 1279, 1280, 1281, 1282, 1283, 1284, 1285, 1286, 1287, 1288, 1289, 1290, 1291, 1292, 1293, 1294, 1295, 1296, 1297, 1298, 1299, 1300, 1301, 1302, 1303, 1304, 1305, 1306, 1307, 1308, 1309, 1310, 1311, 1312, 1313, 1314, 1315, 1316, 1317] (by rfl) (by decide +kernel)
set_option maxRecDepth 100000 in
theorem gL_law_X11_clearWord : GoodIn wsL_law (wsV RL 85 RX11 yX11_clearWord wsX11_clearWord) := goodIn_app (goodIn_of _ (by decide +kernel)) ggL_law_X11_clearWord
set_option maxRecDepth 100000 in
theorem ggL_law_X10_wordLength : GoodIn wsL_law wsX10_wordLength := goodIn_r _ [481, 27, 451, 1250, 1251, 1252, 1253, 1254, 1255, 1256, 1257, 1258, 1259, 1260, 1261, 1262, 1263, 1264, 1265, 1266, 1267, 1324, 1325] (by rfl) (by decide +kernel)
set_option maxRecDepth 100000 in
theorem gL_law_X10_wordLength : GoodIn wsL_law (wsV RL 86 RX10 yX10_wordLength wsX10_wordLength) := goodIn_app (goodIn_of _ (by decide +kernel)) ggL_law_X10_wordLength
set_option maxRecDepth 100000 in
theorem ggL_law_X11_wordLength : GoodIn wsL_law wsX11_wordLength := goodIn_r _ [485, 469, 1268, 1269, 1270, 1271, 1272, 1273, 1274, 1275, 1276, 1277, 1278, 1279, 1280, 1281, 1282, 1283, 1284, 1285, 1286, 1287, 1288, 1289, 1290, 1291, 1292, 1293, 1294, 1295, 1296, 1297, 1298, 1299, 1300, 1301, 1302, 1303, 1304, 1305, 1306, 1307, 1308, 1309, 1310, 1311, 1312, 1313, 1314, 1315, 1316, 1317] (by rfl) (by decide +kernel)
set_option maxRecDepth 100000 in
theorem gL_law_X11_wordLength : GoodIn wsL_law (wsV RL 89 RX11 yX11_wordLength wsX11_wordLength) := goodIn_app (goodIn_of _ (by decide +kernel)) ggL_law_X11_wordLength
set_option maxRecDepth 100000 in
theorem ggL_law_X10_wordLetter : GoodIn wsL_law wsX10_wordLetter := goodIn_r _ [489, 27, 490, 462, 463, 26, 464, 456, 68, 491, 492, 493, 494, 461, 1250, 1251, 1252, 1253, 1254, 1255, 1256, 1257, 1258, 1259, 1260, 1261, 1262, 1263, 1264, 1265, 1266, 1267, 1324, 1325] (by rfl) (by decide +kernel)
set_option maxRecDepth 100000 in
theorem gL_law_X10_wordLetter : GoodIn wsL_law (wsV RL 90 RX10 yX10_wordLetter wsX10_wordLetter) := goodIn_app (goodIn_of _ (by decide +kernel)) ggL_law_X10_wordLetter
set_option maxRecDepth 100000 in
theorem ggL_law_X11_wordLetter : GoodIn wsL_law wsX11_wordLetter := goodIn_r _ [498, 469, 117, 1268, 1269, 1270, 1271, 1272, 1273, 1274, 1275, 1276, 1277, 1278, 1279, 1280, 1281, 1282, 1283, 1284, 1285, 1286, 1287, 1288, 1289, 1290, 1291, 1292, 1293, 1294, 1295, 1296, 1297, 1298, 1299, 1300, 1301, 1302, 1303, 1304, 1305, 1306, 1307, 1308, 1309, 1310, 1311, 1312, 1313, 1314, 1315, 1316, 1317] (by rfl) (by decide +kernel)
set_option maxRecDepth 100000 in
theorem gL_law_X11_wordLetter : GoodIn wsL_law (wsV RL 93 RX11 yX11_wordLetter wsX11_wordLetter) := goodIn_app (goodIn_of _ (by decide +kernel)) ggL_law_X11_wordLetter
set_option maxRecDepth 100000 in
theorem ggL_law_X10_wordAmbiguity : GoodIn wsL_law wsX10_wordAmbiguity := goodIn_r _ [502, 40, 15, 27, 503, 504, 505, 39, 506, 507, 508, 509, 510, 511, 77, 512, 78, 200, 2, 201, 513, 492, 493, 26, 494, 68, 461, 462, 463, 464, 456, 514, 515, 516, 517, 518, 197, 198, 14, 199, 59, 60, 519, 520, 521, 522, 523, 524, 525, 526, 527, 528, 529, 530, 531, 1250, 1251, 1252, 1253, 1254, 1255, 1256, 1257, 1258, 1259, 1260, 1261, 1262, 1263, 1264, 1265, 1266, 1267, 1324, 1325, 1328, 1329, 1330, 1331, 1318, 1319, 1320, 1321] (by rfl) (by decide +kernel)
