set_option maxRecDepth 20000 in
theorem ggL_law_L_denialCause : GoodIn wsL_law wsL_denialCause := goodIn_ca (goodIn_ca (goodIn_r _ [1253, 435, 1254, 1255, 1256, 2, 1257, 359, 360, 35, 1310, 1311, 1312, 1313, 1314, 1315, 1316, 1317, 1318, 1319, 1320, 1321] (by rfl) (by decide +kernel)) (goodIn_sub (fun _ h => List.mem_append_left _ (List.mem_append_left _ (List.mem_append_left _ (List.mem_append_left _ (List.mem_append_left _ (List.mem_append_left _ (List.mem_append_right _ h))))))) (by decide +kernel))) (goodIn_sub (fun _ h => List.mem_append_left _ (List.mem_append_left _ (List.mem_append_right _ h))) (by decide +kernel))
set_option maxRecDepth 20000 in
theorem gL_law_L_denialCause : GoodIn wsL_law (va_wsS RL 304 yL_denialCause wsL_denialCause) := goodIn_app (goodIn_of _ (by decide +kernel)) ggL_law_L_denialCause
set_option maxRecDepth 20000 in
theorem ggL_law_X7_denialCause : GoodIn wsL_law wsX7_denialCause := goodIn_r _ [1261, 222, 210, 211, 212, 5, 213, 214, 215, 1322, 1323, 1324, 1325, 1326, 1327, 1328, 1329, 1330, 1331, 1332, 1333, 1334, 1335, 1336, 1337, 1338, 1339, 1340, 1341, 1342] (by rfl) (by decide +kernel)
set_option maxRecDepth 20000 in
theorem gL_law_X7_denialCause : GoodIn wsL_law (wsV RL 306 RX7 yX7_denialCause wsX7_denialCause) := goodIn_app (goodIn_of _ (by decide +kernel)) ggL_law_X7_denialCause
set_option maxRecDepth 20000 in
theorem ggL_law_L_undo : GoodIn wsL_law wsL_undo := goodIn_ca (goodIn_ca (goodIn_r _ [1264, 823, 1265, 1266, 1267, 2, 1268, 828, 829, 24, 17, 1269, 1270, 1271, 23, 1272, 189, 195, 196, 197, 198, 190, 68, 191, 192, 193, 194, 199, 127, 128, 16, 129, 43, 130, 131, 44, 45, 46, 47, 132, 48, 133, 134, 135, 136, 137, 138, 42, 139, 58, 140, 141, 55, 142, 143, 144, 145, 146, 1310, 1311, 1312, 1313, 1314, 1315, 1316, 1317, 1318, 1319, 1320, 1321, 1355, 1356, 1357, 1343, 1344, 1345, 1346, 1347, 1348, 1349, 1350, 1351, 1352, 1353, 1354, 1367] (by rfl) (by decide +kernel)) (goodIn_sub (fun _ h => List.mem_append_left _ (List.mem_append_left _ (List.mem_append_left _ (List.mem_append_left _ (List.mem_append_left _ (List.mem_append_left _ (List.mem_append_right _ h))))))) (by decide +kernel))) (goodIn_sub (fun _ h => List.mem_append_right _ h) (by decide +kernel))
set_option maxRecDepth 20000 in
theorem gL_law_L_undo : GoodIn wsL_law (va_wsS RL 307 yL_undo wsL_undo) := goodIn_app (goodIn_of _ (by decide +kernel)) ggL_law_L_undo
