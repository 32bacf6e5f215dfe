set_option maxRecDepth 20000 in
theorem ggL_law_X7_denial : GoodIn wsL_law wsX7_denial := goodIn_r _ [1239, 220, 210, 211, 212, 5, 213, 214, 215, 1322, 1323, 1324, 1325, 1326, 1327, 1328, 1329, 1330, 1331, 1332, 1333, 1334, 1335, 1336, 1337, 1338, 1339, 1340, 1341, 1342] (by rfl) (by decide +kernel)
set_option maxRecDepth 20000 in
theorem gL_law_X7_denial : GoodIn wsL_law (wsV RL 300 RX7 yX7_denial wsX7_denial) := goodIn_app (goodIn_of _ (by decide +kernel)) ggL_law_X7_denial
set_option maxRecDepth 20000 in
theorem ggL_law_L_denialDetail : GoodIn wsL_law wsL_denialDetail := goodIn_ca (goodIn_ca (goodIn_r _ [1242, 435, 1243, 1244, 1245, 2, 1246, 158, 1232, 1233, 1234, 1235, 359, 360, 34, 1310, 1311, 1312, 1313, 1314, 1315, 1316, 1317, 1318, 1319, 1320, 1321] (by rfl) (by decide +kernel)) (goodIn_sub (fun _ h => List.mem_append_left _ (List.mem_append_left _ (List.mem_append_left _ (List.mem_append_left _ (List.mem_append_left _ (List.mem_append_left _ (List.mem_append_right _ h))))))) (by decide +kernel))) (goodIn_sub (fun _ h => List.mem_append_left _ (List.mem_append_left _ (List.mem_append_right _ h))) (by decide +kernel))
set_option maxRecDepth 20000 in
theorem gL_law_L_denialDetail : GoodIn wsL_law (va_wsS RL 301 yL_denialDetail wsL_denialDetail) := goodIn_app (goodIn_of _ (by decide +kernel)) ggL_law_L_denialDetail
set_option maxRecDepth 20000 in
theorem ggL_law_X7_denialDetail : GoodIn wsL_law wsX7_denialDetail := goodIn_r _ [1250, 220, 221, 210, 211, 212, 5, 213, 214, 215, 1322, 1323, 1324, 1325, 1326, 1327, 1328, 1329, 1330, 1331, 1332, 1333, 1334, 1335, 1336, 1337, 1338, 1339, 1340, 1341, 1342] (by rfl) (by decide +kernel)
set_option maxRecDepth 20000 in
theorem gL_law_X7_denialDetail : GoodIn wsL_law (wsV RL 303 RX7 yX7_denialDetail wsX7_denialDetail) := goodIn_app (goodIn_of _ (by decide +kernel)) ggL_law_X7_denialDetail
