set_option maxRecDepth 20000 in
theorem ggL_law_X7_denial : GoodIn wsL_law wsX7_denial := goodIn_r _ [1239, 220, 210, 211, 212, 5, 213, 214, 215, 1322, 1323, 1324, 1325, 1326, 1327, 1328, 1329, 1330, 1331, 1332, 1333, 1334, 1335, 1336, 1337, 1338, 1339, 1340, 1341, 1342] (by decide +kernel) (by decide +kernel)
set_option maxRecDepth 20000 in
theorem gL_law_X7_denial : GoodIn wsL_law (wsV RL 300 RX7 yX7_denial wsX7_denial) := goodIn_app (goodIn_of _ (by decide +kernel)) ggL_law_X7_denial
set_option maxRecDepth 20000 in
theorem ggL_law_L_denialDetail : GoodIn wsL_law wsL_denialDetail := goodIn_ca (goodIn_ca (goodIn_r _ [1242, 435, 1243, 1244, 1245, 2, 1246, 158, 1232, 1233, 1234, 1235, 359, 360, 34, 1310, 1311, 1312, 1313, 1314, 1315, 1316, 1317, 1318, 1319, 1320, 1321] (by decide +kernel) (by decide +kernel)) (goodIn_sub (fun _ h => List.mem_append_left _ (List.mem_append_left _ (List.mem_append_left _ (List.mem_append_left _ (List.mem_append_left _ (List.mem_append_left _ (List.mem_append_right _ h))))))) (by decide +kernel))) (goodIn_sub (fun _ h => List.mem_append_left _ (List.mem_append_left _ (List.mem_append_right _ h))) (by decide +kernel))
set_option maxRecDepth 20000 in
theorem gL_law_L_denialDetail : GoodIn wsL_law (va_wsS RL 301 yL_denialDetail wsL_denialDetail) := goodIn_app (goodIn_of _ (by decide +kernel)) ggL_law_L_denialDetail
set_option maxRecDepth 20000 in
theorem ggL_law_X7_denialDetail : GoodIn wsL_law wsX7_denialDetail := goodIn_r _ [1250, 220, 221, 210, 211, 212, 5, 213, 214, 215, 1322, 1323, 1324, 1325, 1326, 1327, 1328, 1329, 1330, 1331, 1332, 1333, 1334, 1335, 1336, 1337, 1338, 1339, 1340, 1341, 1342] (by decide +kernel) (by decide +kernel)
set_option maxRecDepth 20000 in
theorem gL_law_X7_denialDetail : GoodIn wsL_law (wsV RL 303 RX7 yX7_denialDetail wsX7_denialDetail) := goodIn_app (goodIn_of _ (by decide +kernel)) ggL_law_X7_denialDetail
set_option maxRecDepth 20000 in
theorem ggL_law_L_denialCause : GoodIn wsL_law wsL_denialCause := goodIn_ca (goodIn_ca (goodIn_r _ [1253, 435, 1254, 1255, 1256, 2, 1257, 359, 360, 35, 1310, 1311, 1312, 1313, 1314, 1315, 1316, 1317, 1318, 1319, 1320, 1321] (by decide +kernel) (by decide +kernel)) (goodIn_sub (fun _ h => List.mem_append_left _ (List.mem_append_left _ (List.mem_append_left _ (List.mem_append_left _ (List.mem_append_left _ (List.mem_append_left _ (List.mem_append_right _ h))))))) (by decide +kernel))) (goodIn_sub (fun _ h => List.mem_append_left _ (List.mem_append_left _ (List.mem_append_right _ h))) (by decide +kernel))
set_option maxRecDepth 20000 in
theorem gL_law_L_denialCause : GoodIn wsL_law (va_wsS RL 304 yL_denialCause wsL_denialCause) := goodIn_app (goodIn_of _ (by decide +kernel)) ggL_law_L_denialCause
set_option maxRecDepth 20000 in
theorem ggL_law_X7_denialCause : GoodIn wsL_law wsX7_denialCause := goodIn_r _ [1261, 222, 210, 211, 212, 5, 213, 214, 215, 1322, 1323, 1324, 1325, 1326, 1327, 1328, 1329, 1330, 1331, 1332, 1333, 1334, 1335, 1336, 1337, 1338, 1339, 1340, 1341, 1342] (by decide +kernel) (by decide +kernel)
set_option maxRecDepth 20000 in
theorem gL_law_X7_denialCause : GoodIn wsL_law (wsV RL 306 RX7 yX7_denialCause wsX7_denialCause) := goodIn_app (goodIn_of _ (by decide +kernel)) ggL_law_X7_denialCause
set_option maxRecDepth 20000 in
theorem ggL_law_L_undo : GoodIn wsL_law wsL_undo := goodIn_ca (goodIn_ca (goodIn_r _ [1264, 823, 1265, 1266, 1267, 2, 1268, 828, 829, 24, 17, 1269, 1270, 1271, 23, 1272, 189, 195, 196, 197, 198, 190, 68, 191, 192, 193, 194, 199, 127, 128, 16, 129, 43, 130, 131, 44, 45, 46, 47, 132, 48, 133, 134, 135, 136, 137, 138, 42, 139, 58, 140, 141, 55, 142, 143, 144, 145, 146, 1310, 1311, 1312, 1313, 1314, 1315, 1316, 1317, 1318, 1319, 1320, 1321, 1355, 1356, 1357, 1343, 1344, 1345, 1346, 1347, 1348, 1349, 1350, 1351, 1352, 1353, 1354, 1367] (by decide +kernel) (by decide +kernel)) (goodIn_sub (fun _ h => List.mem_append_left _ (List.mem_append_left _ (List.mem_append_left _ (List.mem_append_left _ (List.mem_append_left _ (List.mem_append_left _ (List.mem_append_right _ h))))))) (by decide +kernel))) (goodIn_sub (fun _ h => List.mem_append_right _ h) (by decide +kernel))
set_option maxRecDepth 20000 in
theorem gL_law_L_undo : GoodIn wsL_law (va_wsS RL 307 yL_undo wsL_undo) := goodIn_app (goodIn_of _ (by decide +kernel)) ggL_law_L_undo
set_option maxRecDepth 20000 in
theorem ggL_law_X7_undo : GoodIn wsL_law wsX7_undo := goodIn_ca (goodIn_r _ [1276, 232, 104, 103, 210, 211, 212, 5, 213, 214, 215, 233, 234, 235, 1322, 1323, 1324, 1325, 1326, 1327, 1328, 1329, 1330, 1331, 1332, 1333, 1334, 1335, 1336, 1337, 1338, 1339, 1340, 1341, 1342] (by decide +kernel) (by decide +kernel)) (goodIn_sub (fun _ h => List.mem_append_left _ (List.mem_append_left _ (List.mem_append_left _ (List.mem_append_left _ (List.mem_append_left _ (List.mem_append_left _ (List.mem_append_right _ h))))))) (by decide +kernel))
set_option maxRecDepth 20000 in
theorem gL_law_X7_undo : GoodIn wsL_law (wsV RL 309 RX7 yX7_undo wsX7_undo) := goodIn_app (goodIn_of _ (by decide +kernel)) ggL_law_X7_undo
set_option maxRecDepth 20000 in
theorem ggL_law_X6_undoCount : GoodIn wsL_law wsX6_undoCount := goodIn_r _ [1280, 24, 1310, 1311, 1312, 1313, 1314, 1315, 1316, 1317, 1318, 1319, 1320, 1321, 1355, 1356, 1357] (by decide +kernel) (by decide +kernel)
set_option maxRecDepth 20000 in
theorem gL_law_X6_undoCount : GoodIn wsL_law (wsV RL 310 RX6 yX6_undoCount wsX6_undoCount) := goodIn_app (goodIn_of _ (by decide +kernel)) ggL_law_X6_undoCount
set_option maxRecDepth 20000 in
theorem ggL_law_X7_undoCount : GoodIn wsL_law wsX7_undoCount := goodIn_r _ [1284, 214, 232, 1322, 1323, 1324, 1325, 1326, 1327, 1328, 1329, 1330, 1331, 1332, 1333, 1334, 1335, 1336, 1337, 1338, 1339, 1340, 1341, 1342] (by decide +kernel) (by decide +kernel)
set_option maxRecDepth 20000 in
theorem gL_law_X7_undoCount : GoodIn wsL_law (wsV RL 313 RX7 yX7_undoCount wsX7_undoCount) := goodIn_app (goodIn_of _ (by decide +kernel)) ggL_law_X7_undoCount
set_option maxRecDepth 20000 in
theorem ggL_law_X6_saveSnapshot : GoodIn wsL_law wsX6_saveSnapshot := goodIn_r _ [1288, 20, 17, 1289, 126, 127, 128, 16, 129, 43, 130, 131, 44, 45, 46, 47, 132, 48, 133, 134, 135, 136, 137, 138, 42, 139, 58, 140, 141, 55, 142, 143, 144, 145, 146, 1310, 1311, 1312, 1313, 1314, 1315, 1316, 1317, 1318, 1319, 1320, 1321, 1343, 1344, 1345, 1346, 1347, 1348, 1349, 1350, 1351, 1352, 1353, 1354, 1367] (by decide +kernel) (by decide +kernel)
set_option maxRecDepth 20000 in
theorem gL_law_X6_saveSnapshot : GoodIn wsL_law (wsV RL 314 RX6 yX6_saveSnapshot wsX6_saveSnapshot) := goodIn_app (goodIn_of _ (by decide +kernel)) ggL_law_X6_saveSnapshot
set_option maxRecDepth 20000 in
theorem ggL_law_X7_saveSnapshot : GoodIn wsL_law wsX7_saveSnapshot := goodIn_ca (goodIn_r _ [1293, 214, 1294, 103, 105, 233, 234, 5, 235, 1322, 1323, 1324, 1325, 1326, 1327, 1328, 1329, 1330, 1331, 1332, 1333, 1334, 1335, 1336, 1337, 1338, 1339, 1340, 1341, 1342] (by decide +kernel) (by decide +kernel)) (goodIn_sub (fun _ h => List.mem_append_left _ (List.mem_append_left _ (List.mem_append_left _ (List.mem_append_left _ (List.mem_append_left _ (List.mem_append_left _ (List.mem_append_right _ h))))))) (by decide +kernel))
set_option maxRecDepth 20000 in
theorem gL_law_X7_saveSnapshot : GoodIn wsL_law (wsV RL 317 RX7 yX7_saveSnapshot wsX7_saveSnapshot) := goodIn_app (goodIn_of _ (by decide +kernel)) ggL_law_X7_saveSnapshot
set_option maxRecDepth 20000 in
theorem ggL_law_L_restoreSnapshot : GoodIn wsL_law wsL_restoreSnapshot := goodIn_ca (goodIn_ca (goodIn_r _ [1297, 823, 1298, 1299, 1300, 2, 1301, 828, 829, 1289, 17, 20, 24, 126, 127, 128, 16, 129, 43, 130, 131, 44, 45, 46, 47, 132, 48, 133, 134, 135, 136, 137, 138, 42, 139, 58, 140, 141, 55, 142, 143, 144, 145, 146, 1302, 1303, 1304, 23, 1305, 189, 1310, 1311, 1312, 1313, 1314, 1315, 1316, 1317, 1318, 1319, 1320, 1321, 1343, 1344, 1345, 1346, 1347, 1348, 1349, 1350, 1351, 1352, 1353, 1354, 1367, 1355, 1356, 1357] (by decide +kernel) (by decide +kernel)) (goodIn_sub (fun _ h => List.mem_append_left _ (List.mem_append_left _ (List.mem_append_left _ (List.mem_append_left _ (List.mem_append_left _ (List.mem_append_left _ (List.mem_append_right _ h))))))) (by decide +kernel))) (goodIn_sub (fun _ h => List.mem_append_right _ h) (by decide +kernel))
set_option maxRecDepth 20000 in
theorem gL_law_L_restoreSnapshot : GoodIn wsL_law (va_wsS RL 318 yL_restoreSnapshot wsL_restoreSnapshot) := goodIn_app (goodIn_of _ (by decide +kernel)) ggL_law_L_restoreSnapshot
set_option maxRecDepth 20000 in
theorem ggL_law_X7_restoreSnapshot : GoodIn wsL_law wsX7_restoreSnapshot := goodIn_ca (goodIn_r _ [1309, 1294, 105, 103, 232, 210, 211, 212, 5, 213, 214, 215, 233, 234, 235, 1322, 1323, 1324, 1325, 1326, 1327, 1328, 1329, 1330, 1331, 1332, 1333, 1334, 1335, 1336, 1337, 1338, 1339, 1340, 1341, 1342] (by decide +kernel) (by decide +kernel)) (goodIn_sub (fun _ h => List.mem_append_left _ (List.mem_append_left _ (List.mem_append_left _ (List.mem_append_left _ (List.mem_append_left _ (List.mem_append_left _ (List.mem_append_right _ h))))))) (by decide +kernel))
set_option maxRecDepth 20000 in
theorem gL_law_X7_restoreSnapshot : GoodIn wsL_law (wsV RL 320 RX7 yX7_restoreSnapshot wsX7_restoreSnapshot) := goodIn_app (goodIn_of _ (by decide +kernel)) ggL_law_X7_restoreSnapshot
