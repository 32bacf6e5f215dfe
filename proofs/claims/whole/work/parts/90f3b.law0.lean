set_option maxRecDepth 20000 in
theorem ggL_law_X7_faultPosition : GoodIn wsL_law wsX7_faultPosition := goodIn_r _ [1019, 109, 210, 211, 212, 5, 213, 214, 215, 1322, 1323, 1324, 1325, 1326, 1327, 1328, 1329, 1330, 1331, 1332, 1333, 1334, 1335, 1336, 1337, 1338, 1339, 1340, 1341, 1342] (by rfl) (by decide +kernel)
set_option maxRecDepth 20000 in
theorem gL_law_X7_faultPosition : GoodIn wsL_law (wsV RL 287 RX7 yX7_faultPosition wsX7_faultPosition) := goodIn_app (goodIn_of _ (by decide +kernel)) ggL_law_X7_faultPosition
