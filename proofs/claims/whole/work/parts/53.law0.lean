set_option maxRecDepth 20000 in
theorem ggL_law_X6_init : GoodIn wsL_law wsX6_init := goodIn_ca (goodIn_r _ [10, 11, 12, 13, 14, 15, 16, 17, 18, 19, 20, 21, 22, 23, 24, 25, 26, 27, 28, 29, 30, 31, 32, 33, 34, 35, 36, 37, 38, 39, 40, 41, 42, 43, 44, 45, 46, 47, 48, 49, 50, 51, 52, 53, 54, 55, 56, 57, 58, 59, 60, 61, 62, 63, 64, 65, 66, 67, 68, 69, 70, 71, 72, 73, 74, 75, 76, 77, 78, 79, 80, 81, 82, 83, 84, 85, 86, 87, 88, 89, 90, 91, 92, 93, 94, 95, 96, 97, 98, 1343, 1344, 1345, 1346, 1347, 1348, 1349, 1350, 1351, 1352, 1353, 1354, 1310, 1311, 1312, 1313, 1314, 1315, 1316, 1317, 1318, 1319, 1320, 1321, 1355, 1356, 1357, 1358, 1359, 1360, 1361, 1362, 1363, 1364, 1365, 1366, 1367] (by decide +kernel) (by decide +kernel)) (goodIn_sub (fun _ h => List.mem_append_left _ (List.mem_append_left _ (List.mem_append_left _ (List.mem_append_left _ (List.mem_append_left _ (List.mem_append_left _ (List.mem_append_right _ h))))))) (by decide +kernel))
set_option maxRecDepth 20000 in
theorem gL_law_X6_init : GoodIn wsL_law (wsX6_init) := ggL_law_X6_init
set_option maxRecDepth 20000 in
theorem ggL_law_X7_init : GoodIn wsL_law wsX7_init := goodIn_ca (goodIn_r _ [101, 102, 12, 13, 57, 103, 104, 105, 106, 107, 108, 109, 110, 111, 112, 1322, 1323, 1324, 1325, 1326, 1327, 1328, 1329, 1330, 1331, 1332, 1333, 1334, 1335, 1336, 1337, 1338, 1339, 1340, 1341, 1342] (by decide +kernel) (by decide +kernel)) (goodIn_sub (fun _ h => List.mem_append_left _ (List.mem_append_left _ (List.mem_append_left _ (List.mem_append_left _ (List.mem_append_left _ (List.mem_append_left _ (List.mem_append_right _ h))))))) (by decide +kernel))
set_option maxRecDepth 20000 in
theorem gL_law_X7_init : GoodIn wsL_law (wsX7_init) := ggL_law_X7_init
set_option maxRecDepth 20000 in
theorem ggL_law_L_register : GoodIn wsL_law wsL_register := goodIn_ca (goodIn_ca (goodIn_ca (goodIn_ca (goodIn_r _ [116, 117, 118, 119, 120, 2, 121, 122, 123, 124, 125, 18, 17, 126, 127, 128, 16, 129, 43, 130, 131, 44, 45, 46, 47, 132, 48, 133, 134, 135, 136, 137, 138, 42, 139, 58, 140, 141, 55, 142, 143, 144, 145, 146, 147, 148, 149, 150, 151, 152, 153, 154, 155, 156, 157, 34, 158, 35, 159, 160, 161, 162, 163, 164, 165, 166, 167, 168, 169, 170, 171, 172, 173, 174, 175, 176, 177, 178, 179, 180, 181, 182, 183, 184, 24, 185, 186, 187, 23, 188, 189, 190, 191, 192, 193, 194, 195, 196, 197, 198, 68, 199, 1310, 1311, 1312, 1313, 1314, 1315, 1316, 1317, 1318, 1319, 1320, 1321, 1343, 1344, 1345, 1346, 1347, 1348, 1349, 1350, 1351, 1352, 1353, 1354, 1367, 1355, 1356, 1357] (by decide +kernel) (by decide +kernel)) (goodIn_sub (fun _ h => List.mem_append_left _ (List.mem_append_left _ (List.mem_append_left _ (List.mem_append_left _ (List.mem_append_left _ (List.mem_append_left _ (List.mem_append_right _ h))))))) (by decide +kernel))) (goodIn_sub (fun _ h => List.mem_append_left _ (List.mem_append_left _ (List.mem_append_left _ (List.mem_append_left _ (List.mem_append_left _ (List.mem_append_right _ h)))))) (by decide +kernel))) (goodIn_sub (fun _ h => List.mem_append_left _ (List.mem_append_left _ (List.mem_append_left _ (List.mem_append_left _ (List.mem_append_right _ h))))) (by decide +kernel))) (goodIn_sub (fun _ h => List.mem_append_left _ (List.mem_append_left _ (List.mem_append_left _ (List.mem_append_right _ h)))) (by decide +kernel))
set_option maxRecDepth 20000 in
theorem gL_law_L_register : GoodIn wsL_law (va_wsS RL 146 yL_register wsL_register) := goodIn_app (goodIn_of _ (by decide +kernel)) ggL_law_L_register
set_option maxRecDepth 20000 in
theorem ggL_law_X7_register : GoodIn wsL_law wsX7_register := goodIn_ca (goodIn_r _ [203, 103, 204, 205, 5, 206, 207, 208, 209, 210, 211, 212, 213, 214, 215, 216, 217, 218, 219, 220, 221, 222, 223, 224, 225, 226, 227, 228, 229, 230, 231, 232, 104, 233, 234, 235, 1322, 1323, 1324, 1325, 1326, 1327, 1328, 1329, 1330, 1331, 1332, 1333, 1334, 1335, 1336, 1337, 1338, 1339, 1340, 1341, 1342] (by decide +kernel) (by decide +kernel)) (goodIn_sub (fun _ h => List.mem_append_left _ (List.mem_append_left _ (List.mem_append_left _ (List.mem_append_left _ (List.mem_append_left _ (List.mem_append_left _ (List.mem_append_right _ h))))))) (by decide +kernel))
set_option maxRecDepth 20000 in
theorem gL_law_X7_register : GoodIn wsL_law (wsV RL 151 RX7 yX7_register wsX7_register) := goodIn_app (goodIn_of _ (by decide +kernel)) ggL_law_X7_register
set_option maxRecDepth 20000 in
theorem ggL_law_X7_thrown : GoodIn wsL_law wsX7_thrown := goodIn_r _ [239, 214, 1322, 1323, 1324, 1325, 1326, 1327, 1328, 1329, 1330, 1331, 1332, 1333, 1334, 1335, 1336, 1337, 1338, 1339, 1340, 1341, 1342] (by decide +kernel) (by decide +kernel)
set_option maxRecDepth 20000 in
theorem gL_law_X7_thrown : GoodIn wsL_law (wsV RL 152 RX7 yX7_thrown wsX7_thrown) := goodIn_app (goodIn_of _ (by decide +kernel)) ggL_law_X7_thrown
set_option maxRecDepth 20000 in
theorem ggL_law_L_move : GoodIn wsL_law wsL_move := goodIn_ca (goodIn_ca (goodIn_ca (goodIn_ca (goodIn_r _ [242, 243, 244, 245, 246, 2, 247, 122, 123, 124, 125, 18, 17, 126, 127, 128, 16, 129, 43, 130, 131, 44, 45, 46, 47, 132, 48, 133, 134, 135, 136, 137, 138, 42, 139, 58, 140, 141, 55, 142, 143, 144, 145, 146, 248, 249, 250, 251, 252, 253, 254, 255, 151, 152, 153, 159, 160, 161, 162, 163, 164, 165, 166, 154, 155, 156, 157, 34, 158, 35, 256, 257, 172, 173, 174, 175, 176, 177, 178, 179, 180, 181, 182, 183, 184, 24, 185, 186, 187, 23, 188, 189, 190, 191, 192, 193, 194, 195, 196, 197, 198, 68, 199, 1310, 1311, 1312, 1313, 1314, 1315, 1316, 1317, 1318, 1319, 1320, 1321, 1343, 1344, 1345, 1346, 1347, 1348, 1349, 1350, 1351, 1352, 1353, 1354, 1367, 1355, 1356, 1357] (by decide +kernel) (by decide +kernel)) (goodIn_sub (fun _ h => List.mem_append_left _ (List.mem_append_left _ (List.mem_append_left _ (List.mem_append_left _ (List.mem_append_left _ (List.mem_append_left _ (List.mem_append_right _ h))))))) (by decide +kernel))) (goodIn_sub (fun _ h => List.mem_append_left _ (List.mem_append_left _ (List.mem_append_left _ (List.mem_append_left _ (List.mem_append_left _ (List.mem_append_right _ h)))))) (by decide +kernel))) (goodIn_sub (fun _ h => List.mem_append_left _ (List.mem_append_left _ (List.mem_append_left _ (List.mem_append_left _ (List.mem_append_right _ h))))) (by decide +kernel))) (goodIn_sub (fun _ h => List.mem_append_left _ (List.mem_append_left _ (List.mem_append_left _ (List.mem_append_right _ h)))) (by decide +kernel))
set_option maxRecDepth 20000 in
theorem gL_law_L_move : GoodIn wsL_law (va_wsS RL 155 yL_move wsL_move) := goodIn_app (goodIn_of _ (by decide +kernel)) ggL_law_L_move
set_option maxRecDepth 20000 in
theorem ggL_law_X7_move : GoodIn wsL_law wsX7_move := goodIn_ca (goodIn_r _ [261, 103, 262, 263, 264, 5, 265, 207, 208, 209, 204, 205, 206, 210, 211, 212, 213, 214, 215, 223, 224, 225, 226, 216, 217, 218, 219, 220, 221, 222, 227, 228, 229, 230, 231, 232, 104, 233, 234, 235, 1322, 1323, 1324, 1325, 1326, 1327, 1328, 1329, 1330, 1331, 1332, 1333, 1334, 1335, 1336, 1337, 1338, 1339, 1340, 1341, 1342] (by decide +kernel) (by decide +kernel)) (goodIn_sub (fun _ h => List.mem_append_left _ (List.mem_append_left _ (List.mem_append_left _ (List.mem_append_left _ (List.mem_append_left _ (List.mem_append_left _ (List.mem_append_right _ h))))))) (by decide +kernel))
set_option maxRecDepth 20000 in
theorem gL_law_X7_move : GoodIn wsL_law (wsV RL 158 RX7 yX7_move wsX7_move) := goodIn_app (goodIn_of _ (by decide +kernel)) ggL_law_X7_move
set_option maxRecDepth 20000 in
theorem ggL_law_L_setRevoked : GoodIn wsL_law wsL_setRevoked := goodIn_ca (goodIn_ca (goodIn_ca (goodIn_ca (goodIn_r _ [268, 243, 269, 270, 271, 2, 272, 122, 123, 124, 125, 18, 17, 126, 127, 128, 16, 129, 43, 130, 131, 44, 45, 46, 47, 132, 48, 133, 134, 135, 136, 137, 138, 42, 139, 58, 140, 141, 55, 142, 143, 144, 145, 146, 273, 274, 275, 276, 252, 253, 254, 255, 277, 278, 279, 154, 155, 156, 157, 34, 158, 35, 280, 281, 282, 283, 284, 285, 286, 287, 288, 289, 290, 291, 163, 164, 165, 166, 292, 293, 294, 295, 296, 297, 298, 299, 300, 301, 302, 175, 176, 177, 178, 179, 180, 181, 182, 183, 184, 24, 185, 186, 187, 23, 188, 189, 190, 191, 192, 193, 194, 195, 196, 197, 198, 68, 199, 1310, 1311, 1312, 1313, 1314, 1315, 1316, 1317, 1318, 1319, 1320, 1321, 1343, 1344, 1345, 1346, 1347, 1348, 1349, 1350, 1351, 1352, 1353, 1354, 1367, 1355, 1356, 1357] (by decide +kernel) (by decide +kernel)) (goodIn_sub (fun _ h => List.mem_append_left _ (List.mem_append_left _ (List.mem_append_left _ (List.mem_append_left _ (List.mem_append_left _ (List.mem_append_left _ (List.mem_append_right _ h))))))) (by decide +kernel))) (goodIn_sub (fun _ h => List.mem_append_left _ (List.mem_append_left _ (List.mem_append_left _ (List.mem_append_left _ (List.mem_append_left _ (List.mem_append_right _ h)))))) (by decide +kernel))) (goodIn_sub (fun _ h => List.mem_append_left _ (List.mem_append_left _ (List.mem_append_left _ (List.mem_append_left _ (List.mem_append_right _ h))))) (by decide +kernel))) (goodIn_sub (fun _ h => List.mem_append_left _ (List.mem_append_left _ (List.mem_append_left _ (List.mem_append_right _ h)))) (by decide +kernel))
set_option maxRecDepth 20000 in
theorem gL_law_L_setRevoked : GoodIn wsL_law (va_wsS RL 159 yL_setRevoked wsL_setRevoked) := goodIn_app (goodIn_of _ (by decide +kernel)) ggL_law_L_setRevoked
set_option maxRecDepth 20000 in
theorem ggL_law_X7_setRevoked : GoodIn wsL_law wsX7_setRevoked := goodIn_ca (goodIn_r _ [306, 103, 307, 308, 309, 5, 310, 262, 263, 264, 265, 207, 208, 209, 210, 211, 212, 213, 214, 215, 311, 312, 313, 216, 217, 218, 219, 220, 221, 222, 227, 228, 229, 230, 231, 232, 104, 233, 234, 235, 314, 315, 316, 317, 318, 319, 320, 321, 322, 323, 324, 325, 326, 327, 328, 1322, 1323, 1324, 1325, 1326, 1327, 1328, 1329, 1330, 1331, 1332, 1333, 1334, 1335, 1336, 1337, 1338, 1339, 1340, 1341, 1342] (by decide +kernel) (by decide +kernel)) (goodIn_sub (fun _ h => List.mem_append_left _ (List.mem_append_left _ (List.mem_append_left _ (List.mem_append_left _ (List.mem_append_left _ (List.mem_append_left _ (List.mem_append_right _ h))))))) (by decide +kernel))
set_option maxRecDepth 20000 in
theorem gL_law_X7_setRevoked : GoodIn wsL_law (wsV RL 162 RX7 yX7_setRevoked wsX7_setRevoked) := goodIn_app (goodIn_of _ (by decide +kernel)) ggL_law_X7_setRevoked
set_option maxRecDepth 20000 in
theorem ggL_law_X6_scarecrowCount : GoodIn wsL_law wsX6_scarecrowCount := goodIn_r _ [332, 17, 1310, 1311, 1312, 1313, 1314, 1315, 1316, 1317, 1318, 1319, 1320, 1321, 1343, 1344, 1345, 1346, 1347, 1348, 1349, 1350, 1351, 1352, 1353, 1354] (by decide +kernel) (by decide +kernel)
set_option maxRecDepth 20000 in
theorem gL_law_X6_scarecrowCount : GoodIn wsL_law (wsV RL 163 RX6 yX6_scarecrowCount wsX6_scarecrowCount) := goodIn_app (goodIn_of _ (by decide +kernel)) ggL_law_X6_scarecrowCount
set_option maxRecDepth 20000 in
theorem ggL_law_X7_scarecrowCount : GoodIn wsL_law wsX7_scarecrowCount := goodIn_ca (goodIn_r _ [336, 214, 103, 1322, 1323, 1324, 1325, 1326, 1327, 1328, 1329, 1330, 1331, 1332, 1333, 1334, 1335, 1336, 1337, 1338, 1339, 1340, 1341, 1342] (by decide +kernel) (by decide +kernel)) (goodIn_sub (fun _ h => List.mem_append_left _ (List.mem_append_left _ (List.mem_append_left _ (List.mem_append_left _ (List.mem_append_left _ (List.mem_append_left _ (List.mem_append_right _ h))))))) (by decide +kernel))
set_option maxRecDepth 20000 in
theorem gL_law_X7_scarecrowCount : GoodIn wsL_law (wsV RL 166 RX7 yX7_scarecrowCount wsX7_scarecrowCount) := goodIn_app (goodIn_of _ (by decide +kernel)) ggL_law_X7_scarecrowCount
set_option maxRecDepth 20000 in
theorem ggL_law_L_fieldOf : GoodIn wsL_law wsL_fieldOf := goodIn_ca (goodIn_ca (goodIn_r _ [339, 243, 340, 341, 342, 2, 343, 17, 344, 345, 346, 347, 179, 180, 252, 253, 254, 16, 255, 130, 256, 164, 165, 42, 166, 58, 1310, 1311, 1312, 1313, 1314, 1315, 1316, 1317, 1318, 1319, 1320, 1321, 1343, 1344, 1345, 1346, 1347, 1348, 1349, 1350, 1351, 1352, 1353, 1354, 1367] (by decide +kernel) (by decide +kernel)) (goodIn_sub (fun _ h => List.mem_append_left _ (List.mem_append_left _ (List.mem_append_left _ (List.mem_append_left _ (List.mem_append_left _ (List.mem_append_left _ (List.mem_append_right _ h))))))) (by decide +kernel))) (goodIn_sub (fun _ h => List.mem_append_left _ (List.mem_append_left _ (List.mem_append_left _ (List.mem_append_left _ (List.mem_append_left _ (List.mem_append_right _ h)))))) (by decide +kernel))
set_option maxRecDepth 20000 in
theorem gL_law_L_fieldOf : GoodIn wsL_law (va_wsS RL 167 yL_fieldOf wsL_fieldOf) := goodIn_app (goodIn_of _ (by decide +kernel)) ggL_law_L_fieldOf
set_option maxRecDepth 20000 in
theorem ggL_law_X7_fieldOf : GoodIn wsL_law wsX7_fieldOf := goodIn_ca (goodIn_r _ [351, 103, 307, 308, 309, 5, 310, 262, 263, 264, 265, 207, 208, 209, 210, 211, 212, 213, 214, 215, 1322, 1323, 1324, 1325, 1326, 1327, 1328, 1329, 1330, 1331, 1332, 1333, 1334, 1335, 1336, 1337, 1338, 1339, 1340, 1341, 1342] (by decide +kernel) (by decide +kernel)) (goodIn_sub (fun _ h => List.mem_append_left _ (List.mem_append_left _ (List.mem_append_left _ (List.mem_append_left _ (List.mem_append_left _ (List.mem_append_left _ (List.mem_append_right _ h))))))) (by decide +kernel))
set_option maxRecDepth 20000 in
theorem gL_law_X7_fieldOf : GoodIn wsL_law (wsV RL 169 RX7 yX7_fieldOf wsX7_fieldOf) := goodIn_app (goodIn_of _ (by decide +kernel)) ggL_law_X7_fieldOf
set_option maxRecDepth 20000 in
theorem ggL_law_L_scarecrowOn : GoodIn wsL_law wsL_scarecrowOn := goodIn_ca (goodIn_ca (goodIn_ca (goodIn_r _ [354, 117, 355, 356, 357, 2, 358, 359, 360, 17, 361, 362, 363, 181, 182, 151, 152, 153, 159, 160, 161, 16, 162, 130, 43, 163, 164, 165, 42, 166, 58, 1310, 1311, 1312, 1313, 1314, 1315, 1316, 1317, 1318, 1319, 1320, 1321, 1343, 1344, 1345, 1346, 1347, 1348, 1349, 1350, 1351, 1352, 1353, 1354, 1367] (by decide +kernel) (by decide +kernel)) (goodIn_sub (fun _ h => List.mem_append_left _ (List.mem_append_left _ (List.mem_append_left _ (List.mem_append_left _ (List.mem_append_left _ (List.mem_append_left _ (List.mem_append_right _ h))))))) (by decide +kernel))) (goodIn_sub (fun _ h => List.mem_append_left _ (List.mem_append_left _ (List.mem_append_right _ h))) (by decide +kernel))) (goodIn_sub (fun _ h => List.mem_append_left _ (List.mem_append_left _ (List.mem_append_left _ (List.mem_append_left _ (List.mem_append_right _ h))))) (by decide +kernel))
set_option maxRecDepth 20000 in
theorem gL_law_L_scarecrowOn : GoodIn wsL_law (va_wsS RL 170 yL_scarecrowOn wsL_scarecrowOn) := goodIn_app (goodIn_of _ (by decide +kernel)) ggL_law_L_scarecrowOn
set_option maxRecDepth 20000 in
theorem ggL_law_X7_scarecrowOn : GoodIn wsL_law wsX7_scarecrowOn := goodIn_ca (goodIn_r _ [367, 204, 205, 5, 206, 207, 208, 209, 223, 224, 225, 226, 103, 210, 211, 212, 213, 214, 215, 1322, 1323, 1324, 1325, 1326, 1327, 1328, 1329, 1330, 1331, 1332, 1333, 1334, 1335, 1336, 1337, 1338, 1339, 1340, 1341, 1342] (by decide +kernel) (by decide +kernel)) (goodIn_sub (fun _ h => List.mem_append_left _ (List.mem_append_left _ (List.mem_append_left _ (List.mem_append_left _ (List.mem_append_left _ (List.mem_append_left _ (List.mem_append_right _ h))))))) (by decide +kernel))
set_option maxRecDepth 20000 in
theorem gL_law_X7_scarecrowOn : GoodIn wsL_law (wsV RL 172 RX7 yX7_scarecrowOn wsX7_scarecrowOn) := goodIn_app (goodIn_of _ (by decide +kernel)) ggL_law_X7_scarecrowOn
set_option maxRecDepth 20000 in
theorem ggL_law_L_isRevoked : GoodIn wsL_law wsL_isRevoked := goodIn_ca (goodIn_ca (goodIn_r _ [370, 243, 371, 372, 373, 2, 374, 17, 344, 345, 346, 347, 179, 180, 252, 253, 254, 16, 255, 130, 277, 278, 279, 1310, 1311, 1312, 1313, 1314, 1315, 1316, 1317, 1318, 1319, 1320, 1321, 1343, 1344, 1345, 1346, 1347, 1348, 1349, 1350, 1351, 1352, 1353, 1354] (by decide +kernel) (by decide +kernel)) (goodIn_sub (fun _ h => List.mem_append_left _ (List.mem_append_left _ (List.mem_append_left _ (List.mem_append_left _ (List.mem_append_left _ (List.mem_append_left _ (List.mem_append_right _ h))))))) (by decide +kernel))) (goodIn_sub (fun _ h => List.mem_append_left _ (List.mem_append_left _ (List.mem_append_left _ (List.mem_append_left _ (List.mem_append_left _ (List.mem_append_right _ h)))))) (by decide +kernel))
set_option maxRecDepth 20000 in
theorem gL_law_L_isRevoked : GoodIn wsL_law (va_wsS RL 173 yL_isRevoked wsL_isRevoked) := goodIn_app (goodIn_of _ (by decide +kernel)) ggL_law_L_isRevoked
set_option maxRecDepth 20000 in
theorem ggL_law_X7_isRevoked : GoodIn wsL_law wsX7_isRevoked := goodIn_ca (goodIn_r _ [378, 103, 307, 308, 309, 5, 310, 262, 263, 264, 265, 207, 208, 209, 210, 211, 212, 213, 214, 215, 311, 312, 313, 1322, 1323, 1324, 1325, 1326, 1327, 1328, 1329, 1330, 1331, 1332, 1333, 1334, 1335, 1336, 1337, 1338, 1339, 1340, 1341, 1342] (by decide +kernel) (by decide +kernel)) (goodIn_sub (fun _ h => List.mem_append_left _ (List.mem_append_left _ (List.mem_append_left _ (List.mem_append_left _ (List.mem_append_left _ (List.mem_append_left _ (List.mem_append_right _ h))))))) (by decide +kernel))
set_option maxRecDepth 20000 in
theorem gL_law_X7_isRevoked : GoodIn wsL_law (wsV RL 175 RX7 yX7_isRevoked wsX7_isRevoked) := goodIn_app (goodIn_of _ (by decide +kernel)) ggL_law_X7_isRevoked
set_option maxRecDepth 20000 in
theorem ggL_law_L_isCertified : GoodIn wsL_law wsL_isCertified := goodIn_ca (goodIn_ca (goodIn_r _ [381, 243, 382, 383, 384, 2, 385, 17, 344, 345, 346, 347, 179, 180, 252, 253, 254, 16, 255, 130, 280, 281, 282, 283, 133, 284, 285, 286, 287, 131, 288, 289, 290, 291, 132, 44, 43, 45, 46, 47, 163, 164, 165, 42, 166, 58, 278, 279, 292, 293, 294, 295, 277, 1310, 1311, 1312, 1313, 1314, 1315, 1316, 1317, 1318, 1319, 1320, 1321, 1343, 1344, 1345, 1346, 1347, 1348, 1349, 1350, 1351, 1352, 1353, 1354, 1367] (by decide +kernel) (by decide +kernel)) (goodIn_sub (fun _ h => List.mem_append_left _ (List.mem_append_left _ (List.mem_append_left _ (List.mem_append_left _ (List.mem_append_left _ (List.mem_append_left _ (List.mem_append_right _ h))))))) (by decide +kernel))) (goodIn_sub (fun _ h => List.mem_append_left _ (List.mem_append_left _ (List.mem_append_left _ (List.mem_append_left _ (List.mem_append_left _ (List.mem_append_right _ h)))))) (by decide +kernel))
set_option maxRecDepth 20000 in
theorem gL_law_L_isCertified : GoodIn wsL_law (va_wsS RL 176 yL_isCertified wsL_isCertified) := goodIn_app (goodIn_of _ (by decide +kernel)) ggL_law_L_isCertified
set_option maxRecDepth 20000 in
theorem ggL_law_X7_isCertified : GoodIn wsL_law wsX7_isCertified := goodIn_ca (goodIn_r _ [389, 390, 391, 392, 5, 393, 103, 307, 308, 309, 310, 262, 263, 264, 265, 207, 208, 209, 210, 211, 212, 213, 214, 215, 314, 315, 316, 317, 318, 319, 320, 321, 322, 323, 324, 325, 311, 312, 313, 1322, 1323, 1324, 1325, 1326, 1327, 1328, 1329, 1330, 1331, 1332, 1333, 1334, 1335, 1336, 1337, 1338, 1339, 1340, 1341, 1342] (by decide +kernel) (by decide +kernel)) (goodIn_sub (fun _ h => List.mem_append_left _ (List.mem_append_left _ (List.mem_append_left _ (List.mem_append_left _ (List.mem_append_left _ (List.mem_append_left _ (List.mem_append_right _ h))))))) (by decide +kernel))
set_option maxRecDepth 20000 in
theorem gL_law_X7_isCertified : GoodIn wsL_law (wsV RL 178 RX7 yX7_isCertified wsX7_isCertified) := goodIn_app (goodIn_of _ (by decide +kernel)) ggL_law_X7_isCertified
set_option maxRecDepth 20000 in
theorem ggL_law_L_isCertifiedByChains : GoodIn wsL_law wsL_isCertifiedByChains := goodIn_ca (goodIn_ca (goodIn_r _ [396, 243, 397, 398, 399, 2, 400, 17, 344, 345, 346, 347, 179, 180, 252, 253, 254, 16, 255, 130, 401, 402, 403, 404, 131, 132, 45, 43, 46, 44, 163, 164, 165, 42, 166, 58, 278, 279, 1310, 1311, 1312, 1313, 1314, 1315, 1316, 1317, 1318, 1319, 1320, 1321, 1343, 1344, 1345, 1346, 1347, 1348, 1349, 1350, 1351, 1352, 1353, 1354, 1367] (by decide +kernel) (by decide +kernel)) (goodIn_sub (fun _ h => List.mem_append_left _ (List.mem_append_left _ (List.mem_append_left _ (List.mem_append_left _ (List.mem_append_left _ (List.mem_append_left _ (List.mem_append_right _ h))))))) (by decide +kernel))) (goodIn_sub (fun _ h => List.mem_append_left _ (List.mem_append_left _ (List.mem_append_left _ (List.mem_append_left _ (List.mem_append_left _ (List.mem_append_right _ h)))))) (by decide +kernel))
set_option maxRecDepth 20000 in
theorem gL_law_L_isCertifiedByChains : GoodIn wsL_law (va_wsS RL 179 yL_isCertifiedByChains wsL_isCertifiedByChains) := goodIn_app (goodIn_of _ (by decide +kernel)) ggL_law_L_isCertifiedByChains
set_option maxRecDepth 20000 in
theorem ggL_law_X7_isCertifiedByChains : GoodIn wsL_law wsX7_isCertifiedByChains := goodIn_ca (goodIn_r _ [408, 390, 391, 392, 5, 393, 103, 307, 308, 309, 310, 262, 263, 264, 265, 207, 208, 209, 210, 211, 212, 213, 214, 215, 314, 315, 316, 317, 318, 319, 320, 321, 322, 323, 324, 325, 311, 312, 313, 1322, 1323, 1324, 1325, 1326, 1327, 1328, 1329, 1330, 1331, 1332, 1333, 1334, 1335, 1336, 1337, 1338, 1339, 1340, 1341, 1342] (by decide +kernel) (by decide +kernel)) (goodIn_sub (fun _ h => List.mem_append_left _ (List.mem_append_left _ (List.mem_append_left _ (List.mem_append_left _ (List.mem_append_left _ (List.mem_append_left _ (List.mem_append_right _ h))))))) (by decide +kernel))
set_option maxRecDepth 20000 in
theorem gL_law_X7_isCertifiedByChains : GoodIn wsL_law (wsV RL 181 RX7 yX7_isCertifiedByChains wsX7_isCertifiedByChains) := goodIn_app (goodIn_of _ (by decide +kernel)) ggL_law_X7_isCertifiedByChains
set_option maxRecDepth 20000 in
theorem ggL_law_L_chainLength : GoodIn wsL_law wsL_chainLength := goodIn_ca (goodIn_ca (goodIn_ca (goodIn_r _ [411, 243, 412, 413, 414, 2, 415, 359, 360, 17, 344, 345, 346, 347, 179, 180, 252, 253, 254, 16, 255, 130, 416, 285, 286, 287, 131, 288, 289, 290, 291, 132, 44, 43, 45, 46, 47, 163, 164, 165, 42, 166, 58, 278, 279, 292, 293, 294, 295, 277, 1310, 1311, 1312, 1313, 1314, 1315, 1316, 1317, 1318, 1319, 1320, 1321, 1343, 1344, 1345, 1346, 1347, 1348, 1349, 1350, 1351, 1352, 1353, 1354, 1367] (by decide +kernel) (by decide +kernel)) (goodIn_sub (fun _ h => List.mem_append_left _ (List.mem_append_left _ (List.mem_append_left _ (List.mem_append_left _ (List.mem_append_left _ (List.mem_append_left _ (List.mem_append_right _ h))))))) (by decide +kernel))) (goodIn_sub (fun _ h => List.mem_append_left _ (List.mem_append_left _ (List.mem_append_right _ h))) (by decide +kernel))) (goodIn_sub (fun _ h => List.mem_append_left _ (List.mem_append_left _ (List.mem_append_left _ (List.mem_append_left _ (List.mem_append_left _ (List.mem_append_right _ h)))))) (by decide +kernel))
set_option maxRecDepth 20000 in
theorem gL_law_L_chainLength : GoodIn wsL_law (va_wsS RL 182 yL_chainLength wsL_chainLength) := goodIn_app (goodIn_of _ (by decide +kernel)) ggL_law_L_chainLength
set_option maxRecDepth 20000 in
theorem ggL_law_X7_chainLength : GoodIn wsL_law wsX7_chainLength := goodIn_ca (goodIn_r _ [420, 103, 262, 263, 264, 5, 265, 207, 208, 209, 314, 315, 316, 317, 318, 319, 320, 321, 322, 323, 324, 325, 311, 312, 313, 210, 211, 212, 213, 214, 215, 1322, 1323, 1324, 1325, 1326, 1327, 1328, 1329, 1330, 1331, 1332, 1333, 1334, 1335, 1336, 1337, 1338, 1339, 1340, 1341, 1342] (by decide +kernel) (by decide +kernel)) (goodIn_sub (fun _ h => List.mem_append_left _ (List.mem_append_left _ (List.mem_append_left _ (List.mem_append_left _ (List.mem_append_left _ (List.mem_append_left _ (List.mem_append_right _ h))))))) (by decide +kernel))
set_option maxRecDepth 20000 in
theorem gL_law_X7_chainLength : GoodIn wsL_law (wsV RL 184 RX7 yX7_chainLength wsX7_chainLength) := goodIn_app (goodIn_of _ (by decide +kernel)) ggL_law_X7_chainLength
set_option maxRecDepth 20000 in
theorem ggL_law_L_daysUntilUncertified : GoodIn wsL_law wsL_daysUntilUncertified := goodIn_ca (goodIn_ca (goodIn_r _ [423, 243, 424, 425, 426, 2, 427, 17, 344, 345, 346, 347, 179, 180, 252, 253, 254, 16, 255, 130, 416, 285, 286, 287, 131, 288, 289, 290, 291, 132, 44, 43, 45, 46, 47, 163, 164, 165, 42, 166, 58, 278, 279, 292, 293, 294, 295, 277, 1310, 1311, 1312, 1313, 1314, 1315, 1316, 1317, 1318, 1319, 1320, 1321, 1343, 1344, 1345, 1346, 1347, 1348, 1349, 1350, 1351, 1352, 1353, 1354, 1367] (by decide +kernel) (by decide +kernel)) (goodIn_sub (fun _ h => List.mem_append_left _ (List.mem_append_left _ (List.mem_append_left _ (List.mem_append_left _ (List.mem_append_left _ (List.mem_append_left _ (List.mem_append_right _ h))))))) (by decide +kernel))) (goodIn_sub (fun _ h => List.mem_append_left _ (List.mem_append_left _ (List.mem_append_left _ (List.mem_append_left _ (List.mem_append_left _ (List.mem_append_right _ h)))))) (by decide +kernel))
set_option maxRecDepth 20000 in
theorem gL_law_L_daysUntilUncertified : GoodIn wsL_law (va_wsS RL 185 yL_daysUntilUncertified wsL_daysUntilUncertified) := goodIn_app (goodIn_of _ (by decide +kernel)) ggL_law_L_daysUntilUncertified
set_option maxRecDepth 20000 in
theorem ggL_law_X7_daysUntilUncertified : GoodIn wsL_law wsX7_daysUntilUncertified := goodIn_ca (goodIn_r _ [431, 103, 307, 308, 309, 5, 310, 262, 263, 264, 265, 207, 208, 209, 210, 211, 212, 213, 214, 215, 314, 315, 316, 317, 318, 319, 320, 321, 322, 323, 324, 325, 311, 312, 313, 1322, 1323, 1324, 1325, 1326, 1327, 1328, 1329, 1330, 1331, 1332, 1333, 1334, 1335, 1336, 1337, 1338, 1339, 1340, 1341, 1342] (by decide +kernel) (by decide +kernel)) (goodIn_sub (fun _ h => List.mem_append_left _ (List.mem_append_left _ (List.mem_append_left _ (List.mem_append_left _ (List.mem_append_left _ (List.mem_append_left _ (List.mem_append_right _ h))))))) (by decide +kernel))
set_option maxRecDepth 20000 in
theorem gL_law_X7_daysUntilUncertified : GoodIn wsL_law (wsV RL 187 RX7 yX7_daysUntilUncertified wsX7_daysUntilUncertified) := goodIn_app (goodIn_of _ (by decide +kernel)) ggL_law_X7_daysUntilUncertified
set_option maxRecDepth 20000 in
theorem ggL_law_L_scarecrowByCertificates : GoodIn wsL_law wsL_scarecrowByCertificates := goodIn_ca (goodIn_ca (goodIn_r _ [434, 435, 436, 437, 438, 2, 439, 359, 360, 17, 440, 441, 442, 16, 443, 133, 444, 281, 282, 283, 284, 285, 286, 287, 131, 288, 289, 290, 291, 132, 44, 43, 45, 46, 47, 163, 164, 165, 42, 166, 58, 278, 279, 292, 293, 294, 295, 445, 446, 447, 448, 130, 449, 450, 451, 452, 1310, 1311, 1312, 1313, 1314, 1315, 1316, 1317, 1318, 1319, 1320, 1321, 1343, 1344, 1345, 1346, 1347, 1348, 1349, 1350, 1351, 1352, 1353, 1354, 1367] (by decide +kernel) (by decide +kernel)) (goodIn_sub (fun _ h => List.mem_append_left _ (List.mem_append_left _ (List.mem_append_left _ (List.mem_append_left _ (List.mem_append_left _ (List.mem_append_left _ (List.mem_append_right _ h))))))) (by decide +kernel))) (goodIn_sub (fun _ h => List.mem_append_left _ (List.mem_append_left _ (List.mem_append_right _ h))) (by decide +kernel))
set_option maxRecDepth 20000 in
theorem gL_law_L_scarecrowByCertificates : GoodIn wsL_law (va_wsS RL 188 yL_scarecrowByCertificates wsL_scarecrowByCertificates) := goodIn_app (goodIn_of _ (by decide +kernel)) ggL_law_L_scarecrowByCertificates
set_option maxRecDepth 20000 in
theorem ggL_law_X7_scarecrowByCertificates : GoodIn wsL_law wsX7_scarecrowByCertificates := goodIn_ca (goodIn_r _ [456, 103, 214, 457, 458, 459, 5, 460, 322, 323, 324, 325, 461, 462, 463, 464, 314, 315, 316, 317, 318, 319, 320, 321, 311, 312, 313, 1322, 1323, 1324, 1325, 1326, 1327, 1328, 1329, 1330, 1331, 1332, 1333, 1334, 1335, 1336, 1337, 1338, 1339, 1340, 1341, 1342] (by decide +kernel) (by decide +kernel)) (goodIn_sub (fun _ h => List.mem_append_left _ (List.mem_append_left _ (List.mem_append_left _ (List.mem_append_left _ (List.mem_append_left _ (List.mem_append_left _ (List.mem_append_right _ h))))))) (by decide +kernel))
set_option maxRecDepth 20000 in
theorem gL_law_X7_scarecrowByCertificates : GoodIn wsL_law (wsV RL 190 RX7 yX7_scarecrowByCertificates wsX7_scarecrowByCertificates) := goodIn_app (goodIn_of _ (by decide +kernel)) ggL_law_X7_scarecrowByCertificates
set_option maxRecDepth 20000 in
theorem ggL_law_L_issueByRegistry : GoodIn wsL_law wsL_issueByRegistry := goodIn_ca (goodIn_ca (goodIn_ca (goodIn_ca (goodIn_r _ [467, 243, 468, 469, 470, 2, 471, 122, 123, 124, 125, 18, 17, 126, 127, 128, 16, 129, 43, 130, 131, 44, 45, 46, 47, 132, 48, 133, 134, 135, 136, 137, 138, 42, 139, 58, 140, 141, 55, 142, 143, 144, 145, 146, 472, 473, 474, 475, 252, 253, 254, 255, 476, 477, 478, 154, 155, 156, 157, 34, 158, 35, 479, 480, 481, 482, 171, 172, 173, 174, 163, 164, 165, 166, 175, 176, 177, 178, 179, 180, 181, 182, 183, 184, 24, 185, 186, 187, 23, 188, 189, 190, 191, 192, 193, 194, 195, 196, 197, 198, 68, 199, 1310, 1311, 1312, 1313, 1314, 1315, 1316, 1317, 1318, 1319, 1320, 1321, 1343, 1344, 1345, 1346, 1347, 1348, 1349, 1350, 1351, 1352, 1353, 1354, 1367, 1355, 1356, 1357] (by decide +kernel) (by decide +kernel)) (goodIn_sub (fun _ h => List.mem_append_left _ (List.mem_append_left _ (List.mem_append_left _ (List.mem_append_left _ (List.mem_append_left _ (List.mem_append_left _ (List.mem_append_right _ h))))))) (by decide +kernel))) (goodIn_sub (fun _ h => List.mem_append_left _ (List.mem_append_left _ (List.mem_append_left _ (List.mem_append_left _ (List.mem_append_left _ (List.mem_append_right _ h)))))) (by decide +kernel))) (goodIn_sub (fun _ h => List.mem_append_left _ (List.mem_append_left _ (List.mem_append_left _ (List.mem_append_left _ (List.mem_append_right _ h))))) (by decide +kernel))) (goodIn_sub (fun _ h => List.mem_append_left _ (List.mem_append_left _ (List.mem_append_left _ (List.mem_append_right _ h)))) (by decide +kernel))
set_option maxRecDepth 20000 in
theorem gL_law_L_issueByRegistry : GoodIn wsL_law (va_wsS RL 191 yL_issueByRegistry wsL_issueByRegistry) := goodIn_app (goodIn_of _ (by decide +kernel)) ggL_law_L_issueByRegistry
set_option maxRecDepth 20000 in
theorem ggL_law_X7_issueByRegistry : GoodIn wsL_law wsX7_issueByRegistry := goodIn_ca (goodIn_r _ [486, 103, 262, 263, 264, 5, 265, 207, 208, 209, 210, 211, 212, 213, 214, 215, 216, 217, 218, 219, 220, 221, 222, 487, 488, 489, 490, 227, 228, 229, 230, 231, 232, 104, 233, 234, 235, 1322, 1323, 1324, 1325, 1326, 1327, 1328, 1329, 1330, 1331, 1332, 1333, 1334, 1335, 1336, 1337, 1338, 1339, 1340, 1341, 1342] (by decide +kernel) (by decide +kernel)) (goodIn_sub (fun _ h => List.mem_append_left _ (List.mem_append_left _ (List.mem_append_left _ (List.mem_append_left _ (List.mem_append_left _ (List.mem_append_left _ (List.mem_append_right _ h))))))) (by decide +kernel))
set_option maxRecDepth 20000 in
theorem gL_law_X7_issueByRegistry : GoodIn wsL_law (wsV RL 193 RX7 yX7_issueByRegistry wsX7_issueByRegistry) := goodIn_app (goodIn_of _ (by decide +kernel)) ggL_law_X7_issueByRegistry
set_option maxRecDepth 20000 in
theorem ggL_law_L_issue : GoodIn wsL_law wsL_issue := goodIn_ca (goodIn_ca (goodIn_ca (goodIn_ca (goodIn_r _ [493, 243, 494, 495, 496, 2, 497, 122, 123, 124, 125, 18, 17, 126, 127, 128, 16, 129, 43, 130, 131, 44, 45, 46, 47, 132, 48, 133, 134, 135, 136, 137, 138, 42, 139, 58, 140, 141, 55, 142, 143, 144, 145, 146, 498, 499, 500, 501, 252, 253, 254, 255, 476, 477, 478, 154, 155, 156, 157, 34, 158, 35, 280, 281, 282, 283, 284, 285, 286, 287, 288, 289, 290, 291, 163, 164, 165, 166, 278, 279, 292, 293, 294, 295, 277, 479, 480, 481, 482, 171, 172, 173, 174, 175, 176, 177, 178, 179, 180, 181, 182, 183, 184, 24, 185, 186, 187, 23, 188, 189, 190, 191, 192, 193, 194, 195, 196, 197, 198, 68, 199, 1310, 1311, 1312, 1313, 1314, 1315, 1316, 1317, 1318, 1319, 1320, 1321, 1343, 1344, 1345, 1346, 1347, 1348, 1349, 1350, 1351, 1352, 1353, 1354, 1367, 1355, 1356, 1357] (by decide +kernel) (by decide +kernel)) (goodIn_sub (fun _ h => List.mem_append_left _ (List.mem_append_left _ (List.mem_append_left _ (List.mem_append_left _ (List.mem_append_left _ (List.mem_append_left _ (List.mem_append_right _ h))))))) (by decide +kernel))) (goodIn_sub (fun _ h => List.mem_append_left _ (List.mem_append_left _ (List.mem_append_left _ (List.mem_append_left _ (List.mem_append_left _ (List.mem_append_right _ h)))))) (by decide +kernel))) (goodIn_sub (fun _ h => List.mem_append_left _ (List.mem_append_left _ (List.mem_append_left _ (List.mem_append_left _ (List.mem_append_right _ h))))) (by decide +kernel))) (goodIn_sub (fun _ h => List.mem_append_left _ (List.mem_append_left _ (List.mem_append_left _ (List.mem_append_right _ h)))) (by decide +kernel))
set_option maxRecDepth 20000 in
theorem gL_law_L_issue : GoodIn wsL_law (va_wsS RL 194 yL_issue wsL_issue) := goodIn_app (goodIn_of _ (by decide +kernel)) ggL_law_L_issue
set_option maxRecDepth 20000 in
theorem ggL_law_X7_issue : GoodIn wsL_law wsX7_issue := goodIn_ca (goodIn_r _ [505, 103, 262, 263, 264, 5, 265, 207, 208, 209, 210, 211, 212, 213, 214, 215, 216, 217, 218, 219, 220, 221, 222, 314, 315, 316, 317, 318, 319, 320, 321, 322, 323, 324, 325, 311, 312, 313, 487, 488, 489, 490, 227, 228, 229, 230, 231, 232, 104, 233, 234, 235, 1322, 1323, 1324, 1325, 1326, 1327, 1328, 1329, 1330, 1331, 1332, 1333, 1334, 1335, 1336, 1337, 1338, 1339, 1340, 1341, 1342] (by decide +kernel) (by decide +kernel)) (goodIn_sub (fun _ h => List.mem_append_left _ (List.mem_append_left _ (List.mem_append_left _ (List.mem_append_left _ (List.mem_append_left _ (List.mem_append_left _ (List.mem_append_right _ h))))))) (by decide +kernel))
set_option maxRecDepth 20000 in
theorem gL_law_X7_issue : GoodIn wsL_law (wsV RL 197 RX7 yX7_issue wsX7_issue) := goodIn_app (goodIn_of _ (by decide +kernel)) ggL_law_X7_issue
set_option maxRecDepth 20000 in
theorem ggL_law_L_withdraw : GoodIn wsL_law wsL_withdraw := goodIn_ca (goodIn_ca (goodIn_ca (goodIn_ca (goodIn_r _ [508, 243, 509, 510, 511, 2, 512, 122, 123, 124, 125, 18, 17, 126, 127, 128, 16, 129, 43, 130, 131, 44, 45, 46, 47, 132, 48, 133, 134, 135, 136, 137, 138, 42, 139, 58, 140, 141, 55, 142, 143, 144, 145, 146, 513, 514, 515, 516, 517, 518, 519, 520, 256, 164, 165, 166, 521, 522, 523, 524, 525, 526, 527, 528, 175, 176, 177, 178, 179, 180, 181, 182, 183, 184, 24, 185, 186, 187, 23, 188, 189, 190, 191, 192, 193, 194, 195, 196, 197, 198, 68, 199, 1310, 1311, 1312, 1313, 1314, 1315, 1316, 1317, 1318, 1319, 1320, 1321, 1343, 1344, 1345, 1346, 1347, 1348, 1349, 1350, 1351, 1352, 1353, 1354, 1367, 1355, 1356, 1357] (by decide +kernel) (by decide +kernel)) (goodIn_sub (fun _ h => List.mem_append_left _ (List.mem_append_left _ (List.mem_append_left _ (List.mem_append_left _ (List.mem_append_left _ (List.mem_append_left _ (List.mem_append_right _ h))))))) (by decide +kernel))) (goodIn_sub (fun _ h => List.mem_append_left _ (List.mem_append_left _ (List.mem_append_left _ (List.mem_append_left _ (List.mem_append_left _ (List.mem_append_right _ h)))))) (by decide +kernel))) (goodIn_sub (fun _ h => List.mem_append_left _ (List.mem_append_left _ (List.mem_append_left _ (List.mem_append_left _ (List.mem_append_right _ h))))) (by decide +kernel))) (goodIn_sub (fun _ h => List.mem_append_left _ (List.mem_append_left _ (List.mem_append_left _ (List.mem_append_right _ h)))) (by decide +kernel))
set_option maxRecDepth 20000 in
theorem gL_law_L_withdraw : GoodIn wsL_law (va_wsS RL 198 yL_withdraw wsL_withdraw) := goodIn_app (goodIn_of _ (by decide +kernel)) ggL_law_L_withdraw
set_option maxRecDepth 20000 in
theorem ggL_law_X7_withdraw : GoodIn wsL_law wsX7_withdraw := goodIn_ca (goodIn_r _ [532, 103, 533, 534, 535, 5, 536, 537, 538, 539, 540, 207, 208, 209, 210, 211, 212, 213, 214, 215, 322, 323, 324, 325, 227, 228, 229, 230, 231, 232, 104, 233, 234, 235, 541, 542, 543, 544, 1322, 1323, 1324, 1325, 1326, 1327, 1328, 1329, 1330, 1331, 1332, 1333, 1334, 1335, 1336, 1337, 1338, 1339, 1340, 1341, 1342] (by decide +kernel) (by decide +kernel)) (goodIn_sub (fun _ h => List.mem_append_left _ (List.mem_append_left _ (List.mem_append_left _ (List.mem_append_left _ (List.mem_append_left _ (List.mem_append_left _ (List.mem_append_right _ h))))))) (by decide +kernel))
set_option maxRecDepth 20000 in
theorem gL_law_X7_withdraw : GoodIn wsL_law (wsV RL 200 RX7 yX7_withdraw wsX7_withdraw) := goodIn_app (goodIn_of _ (by decide +kernel)) ggL_law_X7_withdraw
set_option maxRecDepth 20000 in
theorem ggL_law_X6_certificateCount : GoodIn wsL_law wsX6_certificateCount := goodIn_r _ [548, 17, 1310, 1311, 1312, 1313, 1314, 1315, 1316, 1317, 1318, 1319, 1320, 1321, 1343, 1344, 1345, 1346, 1347, 1348, 1349, 1350, 1351, 1352, 1353, 1354] (by decide +kernel) (by decide +kernel)
set_option maxRecDepth 20000 in
theorem gL_law_X6_certificateCount : GoodIn wsL_law (wsV RL 201 RX6 yX6_certificateCount wsX6_certificateCount) := goodIn_app (goodIn_of _ (by decide +kernel)) ggL_law_X6_certificateCount
set_option maxRecDepth 20000 in
theorem ggL_law_X7_certificateCount : GoodIn wsL_law wsX7_certificateCount := goodIn_ca (goodIn_r _ [552, 214, 103, 1322, 1323, 1324, 1325, 1326, 1327, 1328, 1329, 1330, 1331, 1332, 1333, 1334, 1335, 1336, 1337, 1338, 1339, 1340, 1341, 1342] (by decide +kernel) (by decide +kernel)) (goodIn_sub (fun _ h => List.mem_append_left _ (List.mem_append_left _ (List.mem_append_left _ (List.mem_append_left _ (List.mem_append_left _ (List.mem_append_left _ (List.mem_append_right _ h))))))) (by decide +kernel))
set_option maxRecDepth 20000 in
theorem gL_law_X7_certificateCount : GoodIn wsL_law (wsV RL 204 RX7 yX7_certificateCount wsX7_certificateCount) := goodIn_app (goodIn_of _ (by decide +kernel)) ggL_law_X7_certificateCount
set_option maxRecDepth 20000 in
theorem ggL_law_L_isByRegistry : GoodIn wsL_law wsL_isByRegistry := goodIn_ca (goodIn_ca (goodIn_r _ [555, 243, 556, 557, 558, 2, 559, 17, 560, 561, 562, 563, 179, 180, 517, 518, 519, 16, 520, 132, 256, 164, 165, 42, 166, 58, 1310, 1311, 1312, 1313, 1314, 1315, 1316, 1317, 1318, 1319, 1320, 1321, 1343, 1344, 1345, 1346, 1347, 1348, 1349, 1350, 1351, 1352, 1353, 1354, 1367] (by decide +kernel) (by decide +kernel)) (goodIn_sub (fun _ h => List.mem_append_left _ (List.mem_append_left _ (List.mem_append_left _ (List.mem_append_left _ (List.mem_append_left _ (List.mem_append_left _ (List.mem_append_right _ h))))))) (by decide +kernel))) (goodIn_sub (fun _ h => List.mem_append_left _ (List.mem_append_left _ (List.mem_append_left _ (List.mem_append_left _ (List.mem_append_left _ (List.mem_append_right _ h)))))) (by decide +kernel))
set_option maxRecDepth 20000 in
theorem gL_law_L_isByRegistry : GoodIn wsL_law (va_wsS RL 205 yL_isByRegistry wsL_isByRegistry) := goodIn_app (goodIn_of _ (by decide +kernel)) ggL_law_L_isByRegistry
set_option maxRecDepth 20000 in
theorem ggL_law_X7_isByRegistry : GoodIn wsL_law wsX7_isByRegistry := goodIn_ca (goodIn_r _ [567, 533, 534, 535, 5, 536, 537, 538, 539, 540, 103, 207, 208, 209, 210, 211, 212, 213, 214, 215, 322, 323, 324, 325, 1322, 1323, 1324, 1325, 1326, 1327, 1328, 1329, 1330, 1331, 1332, 1333, 1334, 1335, 1336, 1337, 1338, 1339, 1340, 1341, 1342] (by decide +kernel) (by decide +kernel)) (goodIn_sub (fun _ h => List.mem_append_left _ (List.mem_append_left _ (List.mem_append_left _ (List.mem_append_left _ (List.mem_append_left _ (List.mem_append_left _ (List.mem_append_right _ h))))))) (by decide +kernel))
set_option maxRecDepth 20000 in
theorem gL_law_X7_isByRegistry : GoodIn wsL_law (wsV RL 207 RX7 yX7_isByRegistry wsX7_isByRegistry) := goodIn_app (goodIn_of _ (by decide +kernel)) ggL_law_X7_isByRegistry
set_option maxRecDepth 20000 in
theorem ggL_law_L_issuerOf : GoodIn wsL_law wsL_issuerOf := goodIn_ca (goodIn_ca (goodIn_ca (goodIn_r _ [570, 243, 571, 572, 573, 2, 574, 359, 360, 17, 560, 561, 562, 563, 179, 180, 517, 518, 519, 16, 520, 132, 256, 164, 165, 42, 166, 58, 1310, 1311, 1312, 1313, 1314, 1315, 1316, 1317, 1318, 1319, 1320, 1321, 1343, 1344, 1345, 1346, 1347, 1348, 1349, 1350, 1351, 1352, 1353, 1354, 1367] (by decide +kernel) (by decide +kernel)) (goodIn_sub (fun _ h => List.mem_append_left _ (List.mem_append_left _ (List.mem_append_left _ (List.mem_append_left _ (List.mem_append_left _ (List.mem_append_left _ (List.mem_append_right _ h))))))) (by decide +kernel))) (goodIn_sub (fun _ h => List.mem_append_left _ (List.mem_append_left _ (List.mem_append_right _ h))) (by decide +kernel))) (goodIn_sub (fun _ h => List.mem_append_left _ (List.mem_append_left _ (List.mem_append_left _ (List.mem_append_left _ (List.mem_append_left _ (List.mem_append_right _ h)))))) (by decide +kernel))
set_option maxRecDepth 20000 in
theorem gL_law_L_issuerOf : GoodIn wsL_law (va_wsS RL 208 yL_issuerOf wsL_issuerOf) := goodIn_app (goodIn_of _ (by decide +kernel)) ggL_law_L_issuerOf
set_option maxRecDepth 20000 in
theorem ggL_law_X7_issuerOf : GoodIn wsL_law wsX7_issuerOf := goodIn_ca (goodIn_r _ [578, 537, 538, 539, 5, 540, 103, 207, 208, 209, 322, 323, 324, 325, 210, 211, 212, 213, 214, 215, 1322, 1323, 1324, 1325, 1326, 1327, 1328, 1329, 1330, 1331, 1332, 1333, 1334, 1335, 1336, 1337, 1338, 1339, 1340, 1341, 1342] (by decide +kernel) (by decide +kernel)) (goodIn_sub (fun _ h => List.mem_append_left _ (List.mem_append_left _ (List.mem_append_left _ (List.mem_append_left _ (List.mem_append_left _ (List.mem_append_left _ (List.mem_append_right _ h))))))) (by decide +kernel))
set_option maxRecDepth 20000 in
theorem gL_law_X7_issuerOf : GoodIn wsL_law (wsV RL 210 RX7 yX7_issuerOf wsX7_issuerOf) := goodIn_app (goodIn_of _ (by decide +kernel)) ggL_law_X7_issuerOf
set_option maxRecDepth 20000 in
theorem ggL_law_L_subjectOf : GoodIn wsL_law wsL_subjectOf := goodIn_ca (goodIn_ca (goodIn_r _ [581, 243, 582, 583, 584, 2, 585, 17, 560, 561, 562, 563, 179, 180, 517, 518, 519, 16, 520, 132, 256, 164, 165, 42, 166, 58, 1310, 1311, 1312, 1313, 1314, 1315, 1316, 1317, 1318, 1319, 1320, 1321, 1343, 1344, 1345, 1346, 1347, 1348, 1349, 1350, 1351, 1352, 1353, 1354, 1367] (by decide +kernel) (by decide +kernel)) (goodIn_sub (fun _ h => List.mem_append_left _ (List.mem_append_left _ (List.mem_append_left _ (List.mem_append_left _ (List.mem_append_left _ (List.mem_append_left _ (List.mem_append_right _ h))))))) (by decide +kernel))) (goodIn_sub (fun _ h => List.mem_append_left _ (List.mem_append_left _ (List.mem_append_left _ (List.mem_append_left _ (List.mem_append_left _ (List.mem_append_right _ h)))))) (by decide +kernel))
set_option maxRecDepth 20000 in
theorem gL_law_L_subjectOf : GoodIn wsL_law (va_wsS RL 211 yL_subjectOf wsL_subjectOf) := goodIn_app (goodIn_of _ (by decide +kernel)) ggL_law_L_subjectOf
set_option maxRecDepth 20000 in
theorem ggL_law_X7_subjectOf : GoodIn wsL_law wsX7_subjectOf := goodIn_ca (goodIn_r _ [589, 533, 534, 535, 5, 536, 537, 538, 539, 540, 103, 207, 208, 209, 210, 211, 212, 213, 214, 215, 322, 323, 324, 325, 1322, 1323, 1324, 1325, 1326, 1327, 1328, 1329, 1330, 1331, 1332, 1333, 1334, 1335, 1336, 1337, 1338, 1339, 1340, 1341, 1342] (by decide +kernel) (by decide +kernel)) (goodIn_sub (fun _ h => List.mem_append_left _ (List.mem_append_left _ (List.mem_append_left _ (List.mem_append_left _ (List.mem_append_left _ (List.mem_append_left _ (List.mem_append_right _ h))))))) (by decide +kernel))
set_option maxRecDepth 20000 in
theorem gL_law_X7_subjectOf : GoodIn wsL_law (wsV RL 213 RX7 yX7_subjectOf wsX7_subjectOf) := goodIn_app (goodIn_of _ (by decide +kernel)) ggL_law_X7_subjectOf
set_option maxRecDepth 20000 in
theorem ggL_law_L_addressOf : GoodIn wsL_law wsL_addressOf := goodIn_ca (goodIn_ca (goodIn_r _ [592, 243, 593, 594, 595, 2, 596, 17, 560, 561, 562, 563, 179, 180, 517, 518, 519, 16, 520, 132, 256, 164, 165, 42, 166, 58, 1310, 1311, 1312, 1313, 1314, 1315, 1316, 1317, 1318, 1319, 1320, 1321, 1343, 1344, 1345, 1346, 1347, 1348, 1349, 1350, 1351, 1352, 1353, 1354, 1367] (by decide +kernel) (by decide +kernel)) (goodIn_sub (fun _ h => List.mem_append_left _ (List.mem_append_left _ (List.mem_append_left _ (List.mem_append_left _ (List.mem_append_left _ (List.mem_append_left _ (List.mem_append_right _ h))))))) (by decide +kernel))) (goodIn_sub (fun _ h => List.mem_append_left _ (List.mem_append_left _ (List.mem_append_left _ (List.mem_append_left _ (List.mem_append_left _ (List.mem_append_right _ h)))))) (by decide +kernel))
set_option maxRecDepth 20000 in
theorem gL_law_L_addressOf : GoodIn wsL_law (va_wsS RL 214 yL_addressOf wsL_addressOf) := goodIn_app (goodIn_of _ (by decide +kernel)) ggL_law_L_addressOf
set_option maxRecDepth 20000 in
theorem ggL_law_X7_addressOf : GoodIn wsL_law wsX7_addressOf := goodIn_ca (goodIn_r _ [600, 533, 534, 535, 5, 536, 537, 538, 539, 540, 103, 207, 208, 209, 210, 211, 212, 213, 214, 215, 322, 323, 324, 325, 1322, 1323, 1324, 1325, 1326, 1327, 1328, 1329, 1330, 1331, 1332, 1333, 1334, 1335, 1336, 1337, 1338, 1339, 1340, 1341, 1342] (by decide +kernel) (by decide +kernel)) (goodIn_sub (fun _ h => List.mem_append_left _ (List.mem_append_left _ (List.mem_append_left _ (List.mem_append_left _ (List.mem_append_left _ (List.mem_append_left _ (List.mem_append_right _ h))))))) (by decide +kernel))
set_option maxRecDepth 20000 in
theorem gL_law_X7_addressOf : GoodIn wsL_law (wsV RL 216 RX7 yX7_addressOf wsX7_addressOf) := goodIn_app (goodIn_of _ (by decide +kernel)) ggL_law_X7_addressOf
set_option maxRecDepth 20000 in
theorem ggL_law_L_lastDayOf : GoodIn wsL_law wsL_lastDayOf := goodIn_ca (goodIn_ca (goodIn_r _ [603, 243, 604, 605, 606, 2, 607, 17, 560, 561, 562, 563, 179, 180, 517, 518, 519, 16, 520, 132, 256, 164, 165, 42, 166, 58, 1310, 1311, 1312, 1313, 1314, 1315, 1316, 1317, 1318, 1319, 1320, 1321, 1343, 1344, 1345, 1346, 1347, 1348, 1349, 1350, 1351, 1352, 1353, 1354, 1367] (by decide +kernel) (by decide +kernel)) (goodIn_sub (fun _ h => List.mem_append_left _ (List.mem_append_left _ (List.mem_append_left _ (List.mem_append_left _ (List.mem_append_left _ (List.mem_append_left _ (List.mem_append_right _ h))))))) (by decide +kernel))) (goodIn_sub (fun _ h => List.mem_append_left _ (List.mem_append_left _ (List.mem_append_left _ (List.mem_append_left _ (List.mem_append_left _ (List.mem_append_right _ h)))))) (by decide +kernel))
set_option maxRecDepth 20000 in
theorem gL_law_L_lastDayOf : GoodIn wsL_law (va_wsS RL 217 yL_lastDayOf wsL_lastDayOf) := goodIn_app (goodIn_of _ (by decide +kernel)) ggL_law_L_lastDayOf
set_option maxRecDepth 20000 in
theorem ggL_law_X7_lastDayOf : GoodIn wsL_law wsX7_lastDayOf := goodIn_ca (goodIn_r _ [611, 533, 534, 535, 5, 536, 537, 538, 539, 540, 103, 207, 208, 209, 210, 211, 212, 213, 214, 215, 322, 323, 324, 325, 1322, 1323, 1324, 1325, 1326, 1327, 1328, 1329, 1330, 1331, 1332, 1333, 1334, 1335, 1336, 1337, 1338, 1339, 1340, 1341, 1342] (by decide +kernel) (by decide +kernel)) (goodIn_sub (fun _ h => List.mem_append_left _ (List.mem_append_left _ (List.mem_append_left _ (List.mem_append_left _ (List.mem_append_left _ (List.mem_append_left _ (List.mem_append_right _ h))))))) (by decide +kernel))
set_option maxRecDepth 20000 in
theorem gL_law_X7_lastDayOf : GoodIn wsL_law (wsV RL 219 RX7 yX7_lastDayOf wsX7_lastDayOf) := goodIn_app (goodIn_of _ (by decide +kernel)) ggL_law_X7_lastDayOf
set_option maxRecDepth 20000 in
theorem ggL_law_L_isInForce : GoodIn wsL_law wsL_isInForce := goodIn_ca (goodIn_ca (goodIn_r _ [614, 243, 615, 616, 617, 2, 618, 17, 560, 561, 562, 563, 179, 180, 517, 518, 519, 16, 520, 132, 440, 441, 442, 443, 133, 444, 281, 282, 283, 284, 285, 286, 287, 131, 288, 289, 290, 291, 44, 43, 45, 46, 47, 163, 164, 165, 42, 166, 58, 278, 279, 292, 293, 294, 295, 277, 1310, 1311, 1312, 1313, 1314, 1315, 1316, 1317, 1318, 1319, 1320, 1321, 1343, 1344, 1345, 1346, 1347, 1348, 1349, 1350, 1351, 1352, 1353, 1354, 1367] (by decide +kernel) (by decide +kernel)) (goodIn_sub (fun _ h => List.mem_append_left _ (List.mem_append_left _ (List.mem_append_left _ (List.mem_append_left _ (List.mem_append_left _ (List.mem_append_left _ (List.mem_append_right _ h))))))) (by decide +kernel))) (goodIn_sub (fun _ h => List.mem_append_left _ (List.mem_append_left _ (List.mem_append_left _ (List.mem_append_left _ (List.mem_append_left _ (List.mem_append_right _ h)))))) (by decide +kernel))
set_option maxRecDepth 20000 in
theorem gL_law_L_isInForce : GoodIn wsL_law (va_wsS RL 220 yL_isInForce wsL_isInForce) := goodIn_app (goodIn_of _ (by decide +kernel)) ggL_law_L_isInForce
set_option maxRecDepth 20000 in
theorem ggL_law_X7_isInForce : GoodIn wsL_law wsX7_isInForce := goodIn_ca (goodIn_r _ [622, 533, 534, 535, 5, 536, 537, 538, 539, 540, 103, 207, 208, 209, 210, 211, 212, 213, 214, 215, 461, 462, 463, 464, 314, 315, 316, 317, 318, 319, 320, 321, 322, 323, 324, 325, 311, 312, 313, 1322, 1323, 1324, 1325, 1326, 1327, 1328, 1329, 1330, 1331, 1332, 1333, 1334, 1335, 1336, 1337, 1338, 1339, 1340, 1341, 1342] (by decide +kernel) (by decide +kernel)) (goodIn_sub (fun _ h => List.mem_append_left _ (List.mem_append_left _ (List.mem_append_left _ (List.mem_append_left _ (List.mem_append_left _ (List.mem_append_left _ (List.mem_append_right _ h))))))) (by decide +kernel))
set_option maxRecDepth 20000 in
theorem gL_law_X7_isInForce : GoodIn wsL_law (wsV RL 222 RX7 yX7_isInForce wsX7_isInForce) := goodIn_app (goodIn_of _ (by decide +kernel)) ggL_law_X7_isInForce
set_option maxRecDepth 20000 in
theorem ggL_law_X6_inForceCount : GoodIn wsL_law wsX6_inForceCount := goodIn_ca (goodIn_r _ [626, 17, 440, 441, 442, 16, 443, 133, 444, 281, 282, 283, 284, 285, 286, 287, 131, 288, 289, 290, 291, 132, 44, 43, 45, 46, 47, 163, 164, 165, 42, 166, 58, 278, 2, 279, 292, 293, 294, 295, 296, 297, 298, 299, 300, 301, 302, 1310, 1311, 1312, 1313, 1314, 1315, 1316, 1317, 1318, 1319, 1320, 1321, 1343, 1344, 1345, 1346, 1347, 1348, 1349, 1350, 1351, 1352, 1353, 1354, 1367] (by decide +kernel) (by decide +kernel)) (goodIn_sub (fun _ h => List.mem_append_left _ (List.mem_append_left _ (List.mem_append_left _ (List.mem_append_left _ (List.mem_append_left _ (List.mem_append_left _ (List.mem_append_right _ h))))))) (by decide +kernel))
set_option maxRecDepth 20000 in
theorem gL_law_X6_inForceCount : GoodIn wsL_law (wsV RL 223 RX6 yX6_inForceCount wsX6_inForceCount) := goodIn_app (goodIn_of _ (by decide +kernel)) ggL_law_X6_inForceCount
set_option maxRecDepth 20000 in
theorem ggL_law_X7_inForceCount : GoodIn wsL_law wsX7_inForceCount := goodIn_ca (goodIn_r _ [630, 214, 631, 632, 633, 5, 634, 103, 461, 462, 463, 464, 314, 315, 316, 317, 318, 319, 320, 321, 322, 323, 324, 325, 311, 312, 313, 1322, 1323, 1324, 1325, 1326, 1327, 1328, 1329, 1330, 1331, 1332, 1333, 1334, 1335, 1336, 1337, 1338, 1339, 1340, 1341, 1342] (by decide +kernel) (by decide +kernel)) (goodIn_sub (fun _ h => List.mem_append_left _ (List.mem_append_left _ (List.mem_append_left _ (List.mem_append_left _ (List.mem_append_left _ (List.mem_append_left _ (List.mem_append_right _ h))))))) (by decide +kernel))
set_option maxRecDepth 20000 in
theorem gL_law_X7_inForceCount : GoodIn wsL_law (wsV RL 226 RX7 yX7_inForceCount wsX7_inForceCount) := goodIn_app (goodIn_of _ (by decide +kernel)) ggL_law_X7_inForceCount
set_option maxRecDepth 20000 in
theorem ggL_law_L_sow : GoodIn wsL_law wsL_sow := goodIn_ca (goodIn_ca (goodIn_ca (goodIn_ca (goodIn_r _ [637, 117, 638, 639, 640, 2, 641, 122, 123, 124, 125, 18, 17, 126, 127, 128, 16, 129, 43, 130, 131, 44, 45, 46, 47, 132, 48, 133, 134, 135, 136, 137, 138, 42, 139, 58, 140, 141, 55, 142, 143, 144, 145, 146, 642, 643, 644, 645, 151, 152, 153, 256, 164, 165, 166, 154, 155, 156, 157, 34, 158, 35, 257, 172, 173, 174, 175, 176, 177, 178, 179, 180, 181, 182, 183, 184, 24, 185, 186, 187, 23, 188, 189, 190, 191, 192, 193, 194, 195, 196, 197, 198, 68, 199, 1310, 1311, 1312, 1313, 1314, 1315, 1316, 1317, 1318, 1319, 1320, 1321, 1343, 1344, 1345, 1346, 1347, 1348, 1349, 1350, 1351, 1352, 1353, 1354, 1367, 1355, 1356, 1357] (by decide +kernel) (by decide +kernel)) (goodIn_sub (fun _ h => List.mem_append_left _ (List.mem_append_left _ (List.mem_append_left _ (List.mem_append_left _ (List.mem_append_left _ (List.mem_append_left _ (List.mem_append_right _ h))))))) (by decide +kernel))) (goodIn_sub (fun _ h => List.mem_append_left _ (List.mem_append_left _ (List.mem_append_left _ (List.mem_append_left _ (List.mem_append_left _ (List.mem_append_right _ h)))))) (by decide +kernel))) (goodIn_sub (fun _ h => List.mem_append_left _ (List.mem_append_left _ (List.mem_append_left _ (List.mem_append_left _ (List.mem_append_right _ h))))) (by decide +kernel))) (goodIn_sub (fun _ h => List.mem_append_left _ (List.mem_append_left _ (List.mem_append_left _ (List.mem_append_right _ h)))) (by decide +kernel))
set_option maxRecDepth 20000 in
theorem gL_law_L_sow : GoodIn wsL_law (va_wsS RL 227 yL_sow wsL_sow) := goodIn_app (goodIn_of _ (by decide +kernel)) ggL_law_L_sow
set_option maxRecDepth 20000 in
theorem ggL_law_X7_sow : GoodIn wsL_law wsX7_sow := goodIn_ca (goodIn_r _ [649, 103, 204, 205, 5, 206, 207, 208, 209, 210, 211, 212, 213, 214, 215, 216, 217, 218, 219, 220, 221, 222, 227, 228, 229, 230, 231, 232, 104, 233, 234, 235, 1322, 1323, 1324, 1325, 1326, 1327, 1328, 1329, 1330, 1331, 1332, 1333, 1334, 1335, 1336, 1337, 1338, 1339, 1340, 1341, 1342] (by decide +kernel) (by decide +kernel)) (goodIn_sub (fun _ h => List.mem_append_left _ (List.mem_append_left _ (List.mem_append_left _ (List.mem_append_left _ (List.mem_append_left _ (List.mem_append_left _ (List.mem_append_right _ h))))))) (by decide +kernel))
set_option maxRecDepth 20000 in
theorem gL_law_X7_sow : GoodIn wsL_law (wsV RL 229 RX7 yX7_sow wsX7_sow) := goodIn_app (goodIn_of _ (by decide +kernel)) ggL_law_X7_sow
set_option maxRecDepth 20000 in
theorem ggL_law_L_pass : GoodIn wsL_law wsL_pass := goodIn_ca (goodIn_ca (goodIn_ca (goodIn_ca (goodIn_r _ [652, 117, 653, 654, 655, 2, 656, 122, 123, 124, 125, 18, 17, 126, 127, 128, 16, 129, 43, 130, 131, 44, 45, 46, 47, 132, 48, 133, 134, 135, 136, 137, 138, 42, 139, 58, 140, 141, 55, 142, 143, 144, 145, 146, 657, 658, 659, 660, 661, 662, 663, 664, 665, 666, 667, 668, 163, 164, 165, 166, 669, 522, 523, 524, 525, 526, 527, 528, 670, 671, 672, 192, 193, 194, 284, 285, 286, 287, 288, 289, 290, 291, 278, 279, 292, 293, 294, 295, 673, 674, 675, 676, 677, 678, 679, 680, 681, 171, 172, 173, 174, 175, 176, 177, 178, 179, 180, 181, 182, 183, 184, 24, 185, 186, 187, 23, 188, 189, 190, 191, 195, 196, 197, 198, 68, 199, 1310, 1311, 1312, 1313, 1314, 1315, 1316, 1317, 1318, 1319, 1320, 1321, 1343, 1344, 1345, 1346, 1347, 1348, 1349, 1350, 1351, 1352, 1353, 1354, 1367, 1355, 1356, 1357] (by decide +kernel) (by decide +kernel)) (goodIn_sub (fun _ h => List.mem_append_left _ (List.mem_append_left _ (List.mem_append_left _ (List.mem_append_left _ (List.mem_append_left _ (List.mem_append_left _ (List.mem_append_right _ h))))))) (by decide +kernel))) (goodIn_sub (fun _ h => List.mem_append_left _ (List.mem_append_left _ (List.mem_append_left _ (List.mem_append_left _ (List.mem_append_left _ (List.mem_append_right _ h)))))) (by decide +kernel))) (goodIn_sub (fun _ h => List.mem_append_left _ (List.mem_append_left _ (List.mem_append_left _ (List.mem_append_left _ (List.mem_append_right _ h))))) (by decide +kernel))) (goodIn_sub (fun _ h => List.mem_append_left _ (List.mem_append_left _ (List.mem_append_left _ (List.mem_append_right _ h)))) (by decide +kernel))
set_option maxRecDepth 20000 in
theorem gL_law_L_pass : GoodIn wsL_law (va_wsS RL 230 yL_pass wsL_pass) := goodIn_app (goodIn_of _ (by decide +kernel)) ggL_law_L_pass
set_option maxRecDepth 20000 in
theorem ggL_law_X7_pass : GoodIn wsL_law wsX7_pass := goodIn_ca (goodIn_r _ [685, 103, 207, 208, 5, 209, 210, 211, 212, 213, 214, 215, 227, 228, 229, 230, 231, 232, 104, 233, 234, 235, 686, 687, 688, 689, 690, 691, 692, 693, 322, 323, 324, 325, 541, 542, 543, 544, 694, 695, 696, 697, 314, 315, 316, 317, 318, 319, 320, 321, 311, 312, 313, 698, 699, 700, 1322, 1323, 1324, 1325, 1326, 1327, 1328, 1329, 1330, 1331, 1332, 1333, 1334, 1335, 1336, 1337, 1338, 1339, 1340, 1341, 1342] (by decide +kernel) (by decide +kernel)) (goodIn_sub (fun _ h => List.mem_append_left _ (List.mem_append_left _ (List.mem_append_left _ (List.mem_append_left _ (List.mem_append_left _ (List.mem_append_left _ (List.mem_append_right _ h))))))) (by decide +kernel))
set_option maxRecDepth 20000 in
theorem gL_law_X7_pass : GoodIn wsL_law (wsV RL 232 RX7 yX7_pass wsX7_pass) := goodIn_app (goodIn_of _ (by decide +kernel)) ggL_law_X7_pass
set_option maxRecDepth 20000 in
theorem ggL_law_L_predictEaten : GoodIn wsL_law wsL_predictEaten := goodIn_ca (goodIn_ca (goodIn_r _ [703, 117, 704, 705, 706, 2, 707, 181, 182, 19, 17, 126, 127, 128, 16, 129, 43, 130, 131, 44, 45, 46, 47, 132, 48, 133, 134, 135, 136, 137, 138, 42, 139, 58, 140, 141, 55, 142, 143, 144, 145, 146, 661, 662, 663, 664, 665, 666, 667, 668, 163, 164, 165, 166, 669, 522, 523, 524, 525, 526, 527, 528, 670, 671, 672, 192, 193, 194, 284, 285, 286, 287, 288, 289, 290, 291, 278, 279, 292, 293, 294, 295, 673, 674, 675, 676, 677, 678, 679, 680, 681, 171, 172, 173, 174, 1310, 1311, 1312, 1313, 1314, 1315, 1316, 1317, 1318, 1319, 1320, 1321, 1343, 1344, 1345, 1346, 1347, 1348, 1349, 1350, 1351, 1352, 1353, 1354, 1367] (by decide +kernel) (by decide +kernel)) (goodIn_sub (fun _ h => List.mem_append_left _ (List.mem_append_left _ (List.mem_append_left _ (List.mem_append_left _ (List.mem_append_left _ (List.mem_append_left _ (List.mem_append_right _ h))))))) (by decide +kernel))) (goodIn_sub (fun _ h => List.mem_append_left _ (List.mem_append_left _ (List.mem_append_left _ (List.mem_append_left _ (List.mem_append_right _ h))))) (by decide +kernel))
set_option maxRecDepth 20000 in
theorem gL_law_L_predictEaten : GoodIn wsL_law (va_wsS RL 233 yL_predictEaten wsL_predictEaten) := goodIn_app (goodIn_of _ (by decide +kernel)) ggL_law_L_predictEaten
set_option maxRecDepth 20000 in
theorem ggL_law_X7_predictEaten : GoodIn wsL_law wsX7_predictEaten := goodIn_ca (goodIn_r _ [711, 103, 107, 207, 208, 5, 209, 210, 211, 212, 213, 214, 215, 233, 234, 235, 686, 687, 688, 689, 690, 691, 692, 693, 322, 323, 324, 325, 541, 542, 543, 544, 694, 695, 696, 697, 314, 315, 316, 317, 318, 319, 320, 321, 311, 312, 313, 698, 699, 700, 1322, 1323, 1324, 1325, 1326, 1327, 1328, 1329, 1330, 1331, 1332, 1333, 1334, 1335, 1336, 1337, 1338, 1339, 1340, 1341, 1342] (by decide +kernel) (by decide +kernel)) (goodIn_sub (fun _ h => List.mem_append_left _ (List.mem_append_left _ (List.mem_append_left _ (List.mem_append_left _ (List.mem_append_left _ (List.mem_append_left _ (List.mem_append_right _ h))))))) (by decide +kernel))
set_option maxRecDepth 20000 in
theorem gL_law_X7_predictEaten : GoodIn wsL_law (wsV RL 235 RX7 yX7_predictEaten wsX7_predictEaten) := goodIn_app (goodIn_of _ (by decide +kernel)) ggL_law_X7_predictEaten
set_option maxRecDepth 20000 in
theorem ggL_law_X6_day : GoodIn wsL_law wsX6_day := goodIn_r _ [715, 17, 1310, 1311, 1312, 1313, 1314, 1315, 1316, 1317, 1318, 1319, 1320, 1321, 1343, 1344, 1345, 1346, 1347, 1348, 1349, 1350, 1351, 1352, 1353, 1354] (by decide +kernel) (by decide +kernel)
set_option maxRecDepth 20000 in
theorem gL_law_X6_day : GoodIn wsL_law (wsV RL 236 RX6 yX6_day wsX6_day) := goodIn_app (goodIn_of _ (by decide +kernel)) ggL_law_X6_day
set_option maxRecDepth 20000 in
theorem ggL_law_X7_day : GoodIn wsL_law wsX7_day := goodIn_ca (goodIn_r _ [719, 214, 103, 1322, 1323, 1324, 1325, 1326, 1327, 1328, 1329, 1330, 1331, 1332, 1333, 1334, 1335, 1336, 1337, 1338, 1339, 1340, 1341, 1342] (by decide +kernel) (by decide +kernel)) (goodIn_sub (fun _ h => List.mem_append_left _ (List.mem_append_left _ (List.mem_append_left _ (List.mem_append_left _ (List.mem_append_left _ (List.mem_append_left _ (List.mem_append_right _ h))))))) (by decide +kernel))
set_option maxRecDepth 20000 in
theorem gL_law_X7_day : GoodIn wsL_law (wsV RL 239 RX7 yX7_day wsX7_day) := goodIn_app (goodIn_of _ (by decide +kernel)) ggL_law_X7_day
set_option maxRecDepth 20000 in
theorem ggL_law_X6_nextLook : GoodIn wsL_law wsX6_nextLook := goodIn_r _ [723, 17, 724, 670, 2, 671, 672, 192, 193, 194, 1310, 1311, 1312, 1313, 1314, 1315, 1316, 1317, 1318, 1319, 1320, 1321, 1343, 1344, 1345, 1346, 1347, 1348, 1349, 1350, 1351, 1352, 1353, 1354] (by decide +kernel) (by decide +kernel)
set_option maxRecDepth 20000 in
theorem gL_law_X6_nextLook : GoodIn wsL_law (wsV RL 240 RX6 yX6_nextLook wsX6_nextLook) := goodIn_app (goodIn_of _ (by decide +kernel)) ggL_law_X6_nextLook
set_option maxRecDepth 20000 in
theorem ggL_law_X7_nextLook : GoodIn wsL_law wsX7_nextLook := goodIn_ca (goodIn_r _ [728, 214, 103, 1322, 1323, 1324, 1325, 1326, 1327, 1328, 1329, 1330, 1331, 1332, 1333, 1334, 1335, 1336, 1337, 1338, 1339, 1340, 1341, 1342] (by decide +kernel) (by decide +kernel)) (goodIn_sub (fun _ h => List.mem_append_left _ (List.mem_append_left _ (List.mem_append_left _ (List.mem_append_left _ (List.mem_append_left _ (List.mem_append_left _ (List.mem_append_right _ h))))))) (by decide +kernel))
set_option maxRecDepth 20000 in
theorem gL_law_X7_nextLook : GoodIn wsL_law (wsV RL 243 RX7 yX7_nextLook wsX7_nextLook) := goodIn_app (goodIn_of _ (by decide +kernel)) ggL_law_X7_nextLook
set_option maxRecDepth 20000 in
theorem ggL_law_L_grains : GoodIn wsL_law wsL_grains := goodIn_ca (goodIn_ca (goodIn_r _ [731, 117, 732, 733, 734, 2, 735, 17, 361, 362, 363, 181, 182, 151, 152, 153, 256, 164, 165, 42, 166, 58, 1310, 1311, 1312, 1313, 1314, 1315, 1316, 1317, 1318, 1319, 1320, 1321, 1343, 1344, 1345, 1346, 1347, 1348, 1349, 1350, 1351, 1352, 1353, 1354, 1367] (by decide +kernel) (by decide +kernel)) (goodIn_sub (fun _ h => List.mem_append_left _ (List.mem_append_left _ (List.mem_append_left _ (List.mem_append_left _ (List.mem_append_left _ (List.mem_append_left _ (List.mem_append_right _ h))))))) (by decide +kernel))) (goodIn_sub (fun _ h => List.mem_append_left _ (List.mem_append_left _ (List.mem_append_left _ (List.mem_append_left _ (List.mem_append_right _ h))))) (by decide +kernel))
set_option maxRecDepth 20000 in
theorem gL_law_L_grains : GoodIn wsL_law (va_wsS RL 244 yL_grains wsL_grains) := goodIn_app (goodIn_of _ (by decide +kernel)) ggL_law_L_grains
set_option maxRecDepth 20000 in
theorem ggL_law_X7_grains : GoodIn wsL_law wsX7_grains := goodIn_ca (goodIn_r _ [739, 103, 204, 205, 5, 206, 207, 208, 209, 210, 211, 212, 213, 214, 215, 1322, 1323, 1324, 1325, 1326, 1327, 1328, 1329, 1330, 1331, 1332, 1333, 1334, 1335, 1336, 1337, 1338, 1339, 1340, 1341, 1342] (by decide +kernel) (by decide +kernel)) (goodIn_sub (fun _ h => List.mem_append_left _ (List.mem_append_left _ (List.mem_append_left _ (List.mem_append_left _ (List.mem_append_left _ (List.mem_append_left _ (List.mem_append_right _ h))))))) (by decide +kernel))
set_option maxRecDepth 20000 in
theorem gL_law_X7_grains : GoodIn wsL_law (wsV RL 246 RX7 yX7_grains wsX7_grains) := goodIn_app (goodIn_of _ (by decide +kernel)) ggL_law_X7_grains
set_option maxRecDepth 20000 in
theorem ggL_law_L_isGuarded : GoodIn wsL_law wsL_isGuarded := goodIn_ca (goodIn_ca (goodIn_r _ [742, 117, 743, 744, 745, 2, 746, 17, 361, 362, 363, 181, 182, 151, 152, 153, 280, 281, 282, 16, 283, 133, 284, 285, 286, 287, 131, 288, 289, 290, 291, 132, 44, 43, 45, 46, 47, 163, 164, 165, 42, 166, 58, 278, 279, 292, 293, 294, 295, 747, 674, 675, 676, 130, 677, 678, 679, 680, 55, 681, 1310, 1311, 1312, 1313, 1314, 1315, 1316, 1317, 1318, 1319, 1320, 1321, 1343, 1344, 1345, 1346, 1347, 1348, 1349, 1350, 1351, 1352, 1353, 1354, 1367] (by decide +kernel) (by decide +kernel)) (goodIn_sub (fun _ h => List.mem_append_left _ (List.mem_append_left _ (List.mem_append_left _ (List.mem_append_left _ (List.mem_append_left _ (List.mem_append_left _ (List.mem_append_right _ h))))))) (by decide +kernel))) (goodIn_sub (fun _ h => List.mem_append_left _ (List.mem_append_left _ (List.mem_append_left _ (List.mem_append_left _ (List.mem_append_right _ h))))) (by decide +kernel))
set_option maxRecDepth 20000 in
theorem gL_law_L_isGuarded : GoodIn wsL_law (va_wsS RL 247 yL_isGuarded wsL_isGuarded) := goodIn_app (goodIn_of _ (by decide +kernel)) ggL_law_L_isGuarded
set_option maxRecDepth 20000 in
theorem ggL_law_X7_isGuarded : GoodIn wsL_law wsX7_isGuarded := goodIn_ca (goodIn_r _ [751, 204, 205, 5, 206, 207, 208, 209, 210, 211, 212, 213, 214, 215, 694, 695, 696, 697, 103, 314, 315, 316, 317, 318, 319, 320, 321, 322, 323, 324, 325, 311, 312, 313, 698, 699, 700, 1322, 1323, 1324, 1325, 1326, 1327, 1328, 1329, 1330, 1331, 1332, 1333, 1334, 1335, 1336, 1337, 1338, 1339, 1340, 1341, 1342] (by decide +kernel) (by decide +kernel)) (goodIn_sub (fun _ h => List.mem_append_left _ (List.mem_append_left _ (List.mem_append_left _ (List.mem_append_left _ (List.mem_append_left _ (List.mem_append_left _ (List.mem_append_right _ h))))))) (by decide +kernel))
set_option maxRecDepth 20000 in
theorem gL_law_X7_isGuarded : GoodIn wsL_law (wsV RL 249 RX7 yX7_isGuarded wsX7_isGuarded) := goodIn_app (goodIn_of _ (by decide +kernel)) ggL_law_X7_isGuarded
set_option maxRecDepth 20000 in
theorem ggL_law_X6_guardedFields : GoodIn wsL_law wsX6_guardedFields := goodIn_ca (goodIn_r _ [755, 17, 280, 281, 282, 16, 283, 133, 284, 285, 286, 287, 131, 288, 289, 290, 291, 132, 44, 43, 45, 46, 47, 163, 164, 165, 42, 166, 58, 278, 2, 279, 292, 293, 294, 295, 747, 674, 675, 676, 130, 677, 678, 679, 680, 55, 681, 1310, 1311, 1312, 1313, 1314, 1315, 1316, 1317, 1318, 1319, 1320, 1321, 1343, 1344, 1345, 1346, 1347, 1348, 1349, 1350, 1351, 1352, 1353, 1354, 1367] (by decide +kernel) (by decide +kernel)) (goodIn_sub (fun _ h => List.mem_append_left _ (List.mem_append_left _ (List.mem_append_left _ (List.mem_append_left _ (List.mem_append_left _ (List.mem_append_left _ (List.mem_append_right _ h))))))) (by decide +kernel))
set_option maxRecDepth 20000 in
theorem gL_law_X6_guardedFields : GoodIn wsL_law (wsV RL 250 RX6 yX6_guardedFields wsX6_guardedFields) := goodIn_app (goodIn_of _ (by decide +kernel)) ggL_law_X6_guardedFields
set_option maxRecDepth 20000 in
theorem ggL_law_X7_guardedFields : GoodIn wsL_law wsX7_guardedFields := goodIn_ca (goodIn_r _ [759, 214, 694, 695, 696, 5, 697, 103, 314, 315, 316, 317, 318, 319, 320, 321, 322, 323, 324, 325, 311, 312, 313, 698, 699, 700, 326, 327, 328, 1322, 1323, 1324, 1325, 1326, 1327, 1328, 1329, 1330, 1331, 1332, 1333, 1334, 1335, 1336, 1337, 1338, 1339, 1340, 1341, 1342] (by decide +kernel) (by decide +kernel)) (goodIn_sub (fun _ h => List.mem_append_left _ (List.mem_append_left _ (List.mem_append_left _ (List.mem_append_left _ (List.mem_append_left _ (List.mem_append_left _ (List.mem_append_right _ h))))))) (by decide +kernel))
set_option maxRecDepth 20000 in
theorem gL_law_X7_guardedFields : GoodIn wsL_law (wsV RL 253 RX7 yX7_guardedFields wsX7_guardedFields) := goodIn_app (goodIn_of _ (by decide +kernel)) ggL_law_X7_guardedFields
set_option maxRecDepth 20000 in
theorem ggL_law_X6_guardedFieldsByScarecrows : GoodIn wsL_law wsX6_guardedFieldsByScarecrows := goodIn_ca (goodIn_r _ [763, 17, 280, 281, 282, 16, 283, 133, 284, 285, 286, 287, 131, 288, 289, 290, 291, 132, 44, 43, 45, 46, 47, 163, 164, 165, 42, 166, 58, 278, 2, 279, 292, 293, 294, 295, 277, 256, 764, 765, 766, 296, 297, 298, 299, 300, 301, 302, 1310, 1311, 1312, 1313, 1314, 1315, 1316, 1317, 1318, 1319, 1320, 1321, 1343, 1344, 1345, 1346, 1347, 1348, 1349, 1350, 1351, 1352, 1353, 1354, 1367] (by decide +kernel) (by decide +kernel)) (goodIn_sub (fun _ h => List.mem_append_left _ (List.mem_append_left _ (List.mem_append_left _ (List.mem_append_left _ (List.mem_append_left _ (List.mem_append_left _ (List.mem_append_right _ h))))))) (by decide +kernel))
set_option maxRecDepth 20000 in
theorem gL_law_X6_guardedFieldsByScarecrows : GoodIn wsL_law (wsV RL 254 RX6 yX6_guardedFieldsByScarecrows wsX6_guardedFieldsByScarecrows) := goodIn_app (goodIn_of _ (by decide +kernel)) ggL_law_X6_guardedFieldsByScarecrows
set_option maxRecDepth 20000 in
theorem ggL_law_X7_guardedFieldsByScarecrows : GoodIn wsL_law wsX7_guardedFieldsByScarecrows := goodIn_ca (goodIn_r _ [770, 214, 694, 695, 696, 5, 697, 103, 314, 315, 316, 317, 318, 319, 320, 321, 322, 323, 324, 325, 311, 312, 313, 698, 699, 700, 326, 327, 328, 1322, 1323, 1324, 1325, 1326, 1327, 1328, 1329, 1330, 1331, 1332, 1333, 1334, 1335, 1336, 1337, 1338, 1339, 1340, 1341, 1342] (by decide +kernel) (by decide +kernel)) (goodIn_sub (fun _ h => List.mem_append_left _ (List.mem_append_left _ (List.mem_append_left _ (List.mem_append_left _ (List.mem_append_left _ (List.mem_append_left _ (List.mem_append_right _ h))))))) (by decide +kernel))
set_option maxRecDepth 20000 in
theorem gL_law_X7_guardedFieldsByScarecrows : GoodIn wsL_law (wsV RL 257 RX7 yX7_guardedFieldsByScarecrows wsX7_guardedFieldsByScarecrows) := goodIn_app (goodIn_of _ (by decide +kernel)) ggL_law_X7_guardedFieldsByScarecrows
set_option maxRecDepth 20000 in
theorem ggL_law_X6_totalGrains : GoodIn wsL_law wsX6_totalGrains := goodIn_ca (goodIn_r _ [774, 17, 256, 164, 165, 42, 166, 58, 1310, 1311, 1312, 1313, 1314, 1315, 1316, 1317, 1318, 1319, 1320, 1321, 1343, 1344, 1345, 1346, 1347, 1348, 1349, 1350, 1351, 1352, 1353, 1354, 1367] (by decide +kernel) (by decide +kernel)) (goodIn_sub (fun _ h => List.mem_append_left _ (List.mem_append_left _ (List.mem_append_left _ (List.mem_append_left _ (List.mem_append_left _ (List.mem_append_left _ (List.mem_append_right _ h))))))) (by decide +kernel))
set_option maxRecDepth 20000 in
theorem gL_law_X6_totalGrains : GoodIn wsL_law (wsV RL 258 RX6 yX6_totalGrains wsX6_totalGrains) := goodIn_app (goodIn_of _ (by decide +kernel)) ggL_law_X6_totalGrains
set_option maxRecDepth 20000 in
theorem ggL_law_X7_totalGrains : GoodIn wsL_law wsX7_totalGrains := goodIn_ca (goodIn_r _ [778, 214, 103, 1322, 1323, 1324, 1325, 1326, 1327, 1328, 1329, 1330, 1331, 1332, 1333, 1334, 1335, 1336, 1337, 1338, 1339, 1340, 1341, 1342] (by decide +kernel) (by decide +kernel)) (goodIn_sub (fun _ h => List.mem_append_left _ (List.mem_append_left _ (List.mem_append_left _ (List.mem_append_left _ (List.mem_append_left _ (List.mem_append_left _ (List.mem_append_right _ h))))))) (by decide +kernel))
set_option maxRecDepth 20000 in
theorem gL_law_X7_totalGrains : GoodIn wsL_law (wsV RL 261 RX7 yX7_totalGrains wsX7_totalGrains) := goodIn_app (goodIn_of _ (by decide +kernel)) ggL_law_X7_totalGrains
set_option maxRecDepth 20000 in
theorem ggL_law_X6_eaten : GoodIn wsL_law wsX6_eaten := goodIn_r _ [782, 17, 1310, 1311, 1312, 1313, 1314, 1315, 1316, 1317, 1318, 1319, 1320, 1321, 1343, 1344, 1345, 1346, 1347, 1348, 1349, 1350, 1351, 1352, 1353, 1354] (by decide +kernel) (by decide +kernel)
set_option maxRecDepth 20000 in
theorem gL_law_X6_eaten : GoodIn wsL_law (wsV RL 262 RX6 yX6_eaten wsX6_eaten) := goodIn_app (goodIn_of _ (by decide +kernel)) ggL_law_X6_eaten
set_option maxRecDepth 20000 in
theorem ggL_law_X7_eaten : GoodIn wsL_law wsX7_eaten := goodIn_ca (goodIn_r _ [786, 214, 103, 1322, 1323, 1324, 1325, 1326, 1327, 1328, 1329, 1330, 1331, 1332, 1333, 1334, 1335, 1336, 1337, 1338, 1339, 1340, 1341, 1342] (by decide +kernel) (by decide +kernel)) (goodIn_sub (fun _ h => List.mem_append_left _ (List.mem_append_left _ (List.mem_append_left _ (List.mem_append_left _ (List.mem_append_left _ (List.mem_append_left _ (List.mem_append_right _ h))))))) (by decide +kernel))
set_option maxRecDepth 20000 in
theorem gL_law_X7_eaten : GoodIn wsL_law (wsV RL 265 RX7 yX7_eaten wsX7_eaten) := goodIn_app (goodIn_of _ (by decide +kernel)) ggL_law_X7_eaten
set_option maxRecDepth 20000 in
theorem ggL_law_X6_sown : GoodIn wsL_law wsX6_sown := goodIn_r _ [790, 17, 1310, 1311, 1312, 1313, 1314, 1315, 1316, 1317, 1318, 1319, 1320, 1321, 1343, 1344, 1345, 1346, 1347, 1348, 1349, 1350, 1351, 1352, 1353, 1354] (by decide +kernel) (by decide +kernel)
set_option maxRecDepth 20000 in
theorem gL_law_X6_sown : GoodIn wsL_law (wsV RL 266 RX6 yX6_sown wsX6_sown) := goodIn_app (goodIn_of _ (by decide +kernel)) ggL_law_X6_sown
set_option maxRecDepth 20000 in
theorem ggL_law_X7_sown : GoodIn wsL_law wsX7_sown := goodIn_ca (goodIn_r _ [794, 214, 103, 1322, 1323, 1324, 1325, 1326, 1327, 1328, 1329, 1330, 1331, 1332, 1333, 1334, 1335, 1336, 1337, 1338, 1339, 1340, 1341, 1342] (by decide +kernel) (by decide +kernel)) (goodIn_sub (fun _ h => List.mem_append_left _ (List.mem_append_left _ (List.mem_append_left _ (List.mem_append_left _ (List.mem_append_left _ (List.mem_append_left _ (List.mem_append_right _ h))))))) (by decide +kernel))
set_option maxRecDepth 20000 in
theorem gL_law_X7_sown : GoodIn wsL_law (wsV RL 269 RX7 yX7_sown wsX7_sown) := goodIn_app (goodIn_of _ (by decide +kernel)) ggL_law_X7_sown
set_option maxRecDepth 20000 in
theorem ggL_law_L_meanDaysLeft : GoodIn wsL_law wsL_meanDaysLeft := goodIn_ca (goodIn_ca (goodIn_r _ [797, 798, 799, 800, 801, 2, 802, 803, 804, 17, 256, 164, 165, 42, 166, 58, 1310, 1311, 1312, 1313, 1314, 1315, 1316, 1317, 1318, 1319, 1320, 1321, 1343, 1344, 1345, 1346, 1347, 1348, 1349, 1350, 1351, 1352, 1353, 1354, 1367] (by decide +kernel) (by decide +kernel)) (goodIn_sub (fun _ h => List.mem_append_left _ (List.mem_append_left _ (List.mem_append_left _ (List.mem_append_left _ (List.mem_append_left _ (List.mem_append_left _ (List.mem_append_right _ h))))))) (by decide +kernel))) (goodIn_sub (fun _ h => List.mem_append_left _ (List.mem_append_right _ h)) (by decide +kernel))
set_option maxRecDepth 20000 in
theorem gL_law_L_meanDaysLeft : GoodIn wsL_law (va_wsS RL 270 yL_meanDaysLeft wsL_meanDaysLeft) := goodIn_app (goodIn_of _ (by decide +kernel)) ggL_law_L_meanDaysLeft
set_option maxRecDepth 20000 in
theorem ggL_law_X7_meanDaysLeft : GoodIn wsL_law wsX7_meanDaysLeft := goodIn_ca (goodIn_r _ [808, 103, 210, 211, 212, 5, 213, 214, 215, 322, 323, 324, 325, 1322, 1323, 1324, 1325, 1326, 1327, 1328, 1329, 1330, 1331, 1332, 1333, 1334, 1335, 1336, 1337, 1338, 1339, 1340, 1341, 1342] (by decide +kernel) (by decide +kernel)) (goodIn_sub (fun _ h => List.mem_append_left _ (List.mem_append_left _ (List.mem_append_left _ (List.mem_append_left _ (List.mem_append_left _ (List.mem_append_left _ (List.mem_append_right _ h))))))) (by decide +kernel))
set_option maxRecDepth 20000 in
theorem gL_law_X7_meanDaysLeft : GoodIn wsL_law (wsV RL 273 RX7 yX7_meanDaysLeft wsX7_meanDaysLeft) := goodIn_app (goodIn_of _ (by decide +kernel)) ggL_law_X7_meanDaysLeft
set_option maxRecDepth 20000 in
theorem ggL_law_L_inForceShare : GoodIn wsL_law wsL_inForceShare := goodIn_ca (goodIn_ca (goodIn_r _ [811, 798, 812, 813, 814, 2, 815, 803, 804, 17, 440, 441, 442, 16, 443, 133, 444, 281, 282, 283, 284, 285, 286, 287, 131, 288, 289, 290, 291, 132, 44, 43, 45, 46, 47, 163, 164, 165, 42, 166, 58, 278, 279, 292, 293, 294, 295, 296, 297, 298, 299, 300, 301, 302, 1310, 1311, 1312, 1313, 1314, 1315, 1316, 1317, 1318, 1319, 1320, 1321, 1343, 1344, 1345, 1346, 1347, 1348, 1349, 1350, 1351, 1352, 1353, 1354, 1367] (by decide +kernel) (by decide +kernel)) (goodIn_sub (fun _ h => List.mem_append_left _ (List.mem_append_left _ (List.mem_append_left _ (List.mem_append_left _ (List.mem_append_left _ (List.mem_append_left _ (List.mem_append_right _ h))))))) (by decide +kernel))) (goodIn_sub (fun _ h => List.mem_append_left _ (List.mem_append_right _ h)) (by decide +kernel))
set_option maxRecDepth 20000 in
theorem gL_law_L_inForceShare : GoodIn wsL_law (va_wsS RL 274 yL_inForceShare wsL_inForceShare) := goodIn_app (goodIn_of _ (by decide +kernel)) ggL_law_L_inForceShare
set_option maxRecDepth 20000 in
theorem ggL_law_X7_inForceShare : GoodIn wsL_law wsX7_inForceShare := goodIn_ca (goodIn_r _ [819, 103, 210, 211, 212, 5, 213, 214, 215, 631, 632, 633, 634, 461, 462, 463, 464, 314, 315, 316, 317, 318, 319, 320, 321, 322, 323, 324, 325, 311, 312, 313, 1322, 1323, 1324, 1325, 1326, 1327, 1328, 1329, 1330, 1331, 1332, 1333, 1334, 1335, 1336, 1337, 1338, 1339, 1340, 1341, 1342] (by decide +kernel) (by decide +kernel)) (goodIn_sub (fun _ h => List.mem_append_left _ (List.mem_append_left _ (List.mem_append_left _ (List.mem_append_left _ (List.mem_append_left _ (List.mem_append_left _ (List.mem_append_right _ h))))))) (by decide +kernel))
set_option maxRecDepth 20000 in
theorem gL_law_X7_inForceShare : GoodIn wsL_law (wsV RL 276 RX7 yX7_inForceShare wsX7_inForceShare) := goodIn_app (goodIn_of _ (by decide +kernel)) ggL_law_X7_inForceShare
set_option maxRecDepth 20000 in
theorem ggL_law_L_feed : GoodIn wsL_law wsL_feed := goodIn_ca (goodIn_ca (goodIn_r _ [822, 823, 824, 825, 826, 2, 827, 828, 829, 28, 830, 831, 832, 27, 833, 74, 834, 835, 172, 173, 42, 174, 58, 1310, 1311, 1312, 1313, 1314, 1315, 1316, 1317, 1318, 1319, 1320, 1321, 1358, 1359, 1360, 1361, 1362, 1367] (by decide +kernel) (by decide +kernel)) (goodIn_sub (fun _ h => List.mem_append_left _ (List.mem_append_left _ (List.mem_append_left _ (List.mem_append_left _ (List.mem_append_left _ (List.mem_append_left _ (List.mem_append_right _ h))))))) (by decide +kernel))) (goodIn_sub (fun _ h => List.mem_append_right _ h) (by decide +kernel))
set_option maxRecDepth 20000 in
theorem gL_law_L_feed : GoodIn wsL_law (va_wsS RL 277 yL_feed wsL_feed) := goodIn_app (goodIn_of _ (by decide +kernel)) ggL_law_L_feed
set_option maxRecDepth 20000 in
theorem ggL_law_X7_feed : GoodIn wsL_law wsX7_feed := goodIn_ca (goodIn_r _ [839, 840, 108, 210, 211, 212, 5, 213, 214, 215, 1322, 1323, 1324, 1325, 1326, 1327, 1328, 1329, 1330, 1331, 1332, 1333, 1334, 1335, 1336, 1337, 1338, 1339, 1340, 1341, 1342] (by decide +kernel) (by decide +kernel)) (goodIn_sub (fun _ h => List.mem_append_left _ (List.mem_append_left _ (List.mem_append_left _ (List.mem_append_left _ (List.mem_append_left _ (List.mem_append_left _ (List.mem_append_right _ h))))))) (by decide +kernel))
set_option maxRecDepth 20000 in
theorem gL_law_X7_feed : GoodIn wsL_law (wsV RL 280 RX7 yX7_feed wsX7_feed) := goodIn_app (goodIn_of _ (by decide +kernel)) ggL_law_X7_feed
set_option maxRecDepth 20000 in
theorem ggL_law_L_execute : GoodIn wsL_law wsL_execute := goodIn_ca (goodIn_ca (goodIn_ca (goodIn_r _ [843, 117, 844, 845, 846, 2, 847, 181, 182, 183, 184, 28, 33, 17, 18, 24, 848, 849, 850, 27, 851, 852, 834, 853, 854, 855, 856, 857, 858, 859, 860, 861, 862, 863, 864, 865, 866, 867, 868, 74, 869, 164, 165, 42, 166, 58, 870, 871, 872, 873, 76, 874, 54, 55, 56, 875, 876, 877, 878, 879, 880, 881, 882, 883, 884, 885, 886, 887, 888, 889, 890, 891, 892, 893, 894, 895, 896, 897, 898, 899, 900, 901, 902, 903, 904, 905, 906, 907, 908, 909, 910, 911, 912, 93, 913, 914, 915, 916, 917, 918, 919, 920, 921, 922, 923, 924, 925, 926, 927, 928, 929, 930, 77, 931, 932, 933, 934, 835, 172, 173, 174, 935, 936, 937, 938, 122, 123, 124, 125, 126, 127, 128, 16, 129, 43, 130, 131, 44, 45, 46, 47, 132, 48, 133, 134, 135, 136, 137, 138, 139, 140, 141, 142, 143, 144, 145, 146, 939, 940, 941, 942, 943, 944, 945, 256, 946, 947, 948, 949, 950, 951, 952, 147, 148, 149, 150, 151, 152, 153, 154, 155, 156, 157, 34, 158, 35, 159, 160, 161, 162, 163, 167, 168, 169, 170, 171, 248, 249, 250, 251, 252, 253, 254, 255, 257, 273, 274, 275, 276, 277, 278, 279, 280, 281, 282, 283, 284, 285, 286, 287, 288, 289, 290, 291, 292, 293, 294, 295, 296, 297, 298, 299, 300, 301, 302, 472, 473, 474, 475, 476, 477, 478, 479, 480, 481, 482, 498, 499, 500, 501, 513, 514, 515, 516, 517, 518, 519, 520, 521, 522, 523, 524, 525, 526, 527, 528, 642, 643, 644, 645, 657, 658, 659, 660, 661, 662, 663, 664, 665, 666, 667, 668, 669, 670, 671, 672, 192, 193, 194, 673, 674, 675, 676, 677, 678, 679, 680, 681, 953, 954, 955, 956, 185, 186, 187, 23, 188, 189, 190, 191, 195, 196, 197, 198, 68, 199, 1310, 1311, 1312, 1313, 1314, 1315, 1316, 1317, 1318, 1319, 1320, 1321, 1358, 1359, 1360, 1361, 1362, 1367, 1368, 1369, 1370, 1371, 1343, 1344, 1345, 1346, 1347, 1348, 1349, 1350, 1351, 1352, 1353, 1354, 1355, 1356, 1357] (by decide +kernel) (by decide +kernel)) (goodIn_sub (fun _ h => List.mem_append_left _ (List.mem_append_left _ (List.mem_append_left _ (List.mem_append_left _ (List.mem_append_left _ (List.mem_append_left _ (List.mem_append_right _ h))))))) (by decide +kernel))) (goodIn_sub (fun _ h => List.mem_append_left _ (List.mem_append_left _ (List.mem_append_left _ (List.mem_append_left _ (List.mem_append_right _ h))))) (by decide +kernel))) (goodIn_sub (fun _ h => List.mem_append_left _ (List.mem_append_left _ (List.mem_append_left _ (List.mem_append_right _ h)))) (by decide +kernel))
set_option maxRecDepth 20000 in
theorem gL_law_L_execute : GoodIn wsL_law (va_wsS RL 281 yL_execute wsL_execute) := goodIn_app (goodIn_of _ (by decide +kernel)) ggL_law_L_execute
set_option maxRecDepth 20000 in
theorem ggL_law_X7_execute : GoodIn wsL_law wsX7_execute := goodIn_ca (goodIn_r _ [960, 961, 109, 840, 103, 106, 231, 962, 214, 963, 964, 965, 5, 966, 967, 968, 969, 970, 971, 972, 973, 974, 975, 976, 977, 978, 108, 979, 980, 981, 982, 112, 983, 880, 881, 882, 883, 884, 885, 886, 887, 888, 889, 890, 984, 892, 893, 894, 895, 896, 897, 898, 899, 900, 901, 902, 903, 904, 905, 906, 907, 908, 909, 910, 911, 912, 93, 913, 914, 915, 916, 917, 918, 919, 920, 921, 922, 923, 924, 925, 926, 985, 986, 987, 988, 207, 208, 209, 989, 990, 991, 992, 210, 211, 212, 213, 215, 233, 234, 235, 993, 994, 995, 996, 997, 201, 202, 203, 204, 205, 206, 216, 217, 218, 219, 220, 221, 222, 223, 224, 225, 226, 227, 228, 229, 230, 232, 104, 998, 259, 260, 261, 262, 263, 264, 265, 999, 304, 305, 306, 307, 308, 309, 310, 311, 312, 313, 314, 315, 316, 317, 318, 319, 320, 321, 322, 323, 324, 325, 326, 327, 328, 1000, 484, 485, 486, 487, 488, 489, 490, 1001, 503, 504, 505, 1002, 530, 531, 532, 533, 534, 535, 536, 537, 538, 539, 540, 541, 542, 543, 544, 1003, 647, 648, 649, 1004, 683, 684, 685, 686, 687, 688, 689, 690, 691, 692, 693, 694, 695, 696, 697, 698, 699, 700, 1005, 1006, 1007, 1008, 1322, 1323, 1324, 1325, 1326, 1327, 1328, 1329, 1330, 1331, 1332, 1333, 1334, 1335, 1336, 1337, 1338, 1339, 1340, 1341, 1342, 1368, 1369, 1370, 1371] (by decide +kernel) (by decide +kernel)) (goodIn_sub (fun _ h => List.mem_append_left _ (List.mem_append_left _ (List.mem_append_left _ (List.mem_append_left _ (List.mem_append_left _ (List.mem_append_left _ (List.mem_append_right _ h))))))) (by decide +kernel))
set_option maxRecDepth 20000 in
theorem gL_law_X7_execute : GoodIn wsL_law (wsV RL 284 RX7 yX7_execute wsX7_execute) := goodIn_app (goodIn_of _ (by decide +kernel)) ggL_law_X7_execute
set_option maxRecDepth 20000 in
theorem ggL_law_L_faultPosition : GoodIn wsL_law wsL_faultPosition := goodIn_ca (goodIn_ca (goodIn_r _ [1011, 435, 1012, 1013, 1014, 2, 1015, 359, 360, 33, 1310, 1311, 1312, 1313, 1314, 1315, 1316, 1317, 1318, 1319, 1320, 1321] (by decide +kernel) (by decide +kernel)) (goodIn_sub (fun _ h => List.mem_append_left _ (List.mem_append_left _ (List.mem_append_left _ (List.mem_append_left _ (List.mem_append_left _ (List.mem_append_left _ (List.mem_append_right _ h))))))) (by decide +kernel))) (goodIn_sub (fun _ h => List.mem_append_left _ (List.mem_append_left _ (List.mem_append_right _ h))) (by decide +kernel))
set_option maxRecDepth 20000 in
theorem gL_law_L_faultPosition : GoodIn wsL_law (va_wsS RL 285 yL_faultPosition wsL_faultPosition) := goodIn_app (goodIn_of _ (by decide +kernel)) ggL_law_L_faultPosition
set_option maxRecDepth 20000 in
theorem ggL_law_X7_faultPosition : GoodIn wsL_law wsX7_faultPosition := goodIn_r _ [1019, 109, 210, 211, 212, 5, 213, 214, 215, 1322, 1323, 1324, 1325, 1326, 1327, 1328, 1329, 1330, 1331, 1332, 1333, 1334, 1335, 1336, 1337, 1338, 1339, 1340, 1341, 1342] (by decide +kernel) (by decide +kernel)
set_option maxRecDepth 20000 in
theorem gL_law_X7_faultPosition : GoodIn wsL_law (wsV RL 287 RX7 yX7_faultPosition wsX7_faultPosition) := goodIn_app (goodIn_of _ (by decide +kernel)) ggL_law_X7_faultPosition
set_option maxRecDepth 20000 in
theorem ggL_law_L_writeCertificate : GoodIn wsL_law wsL_writeCertificate := goodIn_ca (goodIn_ca (goodIn_r _ [1022, 243, 1023, 1024, 1025, 2, 1026, 32, 17, 560, 561, 562, 563, 179, 180, 517, 518, 519, 16, 520, 132, 1027, 1028, 1029, 31, 1030, 1031, 1032, 1033, 1034, 84, 1035, 1036, 1037, 1038, 1039, 89, 1040, 1041, 1042, 1043, 1044, 1045, 90, 1046, 1047, 1048, 1049, 1050, 1051, 1052, 1053, 1054, 1055, 1056, 54, 55, 56, 1057, 1058, 1059, 1060, 1061, 1062, 1063, 1064, 1065, 1066, 1067, 1068, 1069, 1070, 88, 1071, 141, 142, 1072, 144, 145, 146, 1073, 1074, 1075, 1076, 1077, 87, 1078, 1079, 901, 1080, 1081, 1082, 1083, 1084, 1085, 1086, 1087, 30, 1088, 1089, 1090, 1091, 1092, 93, 1093, 1094, 256, 164, 165, 42, 166, 58, 1095, 1096, 1097, 1098, 1099, 1100, 1101, 1102, 1103, 1104, 1105, 1106, 1107, 1108, 1109, 1110, 91, 92, 94, 95, 96, 97, 98, 1111, 1112, 1113, 1114, 1115, 1116, 1117, 1118, 1119, 917, 918, 919, 1120, 1121, 882, 1122, 906, 1123, 1124, 909, 1125, 1126, 1127, 1128, 924, 925, 926, 1129, 1130, 1131, 914, 915, 916, 920, 904, 905, 907, 908, 910, 1132, 1133, 1134, 1135, 1136, 1137, 1138, 1139, 1140, 1141, 298, 1142, 1143, 1144, 1145, 1146, 1147, 1148, 1149, 1150, 1151, 1152, 1153, 1154, 1155, 1156, 1157, 1158, 1159, 1160, 1161, 1162, 1163, 1164, 440, 441, 442, 443, 133, 444, 281, 282, 283, 284, 285, 286, 287, 131, 288, 289, 290, 291, 44, 43, 45, 46, 47, 163, 278, 279, 292, 293, 294, 295, 277, 1165, 1166, 1167, 1168, 1169, 1170, 1171, 1172, 1310, 1311, 1312, 1313, 1314, 1315, 1316, 1317, 1318, 1319, 1320, 1321, 1343, 1344, 1345, 1346, 1347, 1348, 1349, 1350, 1351, 1352, 1353, 1354, 1372, 1373, 1374, 1375, 1376, 1377, 1363, 1364, 1365, 1366, 1378, 1379, 1380, 1381, 1382, 1383, 1367] (by decide +kernel) (by decide +kernel)) (goodIn_sub (fun _ h => List.mem_append_left _ (List.mem_append_left _ (List.mem_append_left _ (List.mem_append_left _ (List.mem_append_left _ (List.mem_append_left _ (List.mem_append_right _ h))))))) (by decide +kernel))) (goodIn_sub (fun _ h => List.mem_append_left _ (List.mem_append_left _ (List.mem_append_left _ (List.mem_append_left _ (List.mem_append_left _ (List.mem_append_right _ h)))))) (by decide +kernel))
set_option maxRecDepth 20000 in
theorem gL_law_L_writeCertificate : GoodIn wsL_law (va_wsS RL 288 yL_writeCertificate wsL_writeCertificate) := goodIn_app (goodIn_of _ (by decide +kernel)) ggL_law_L_writeCertificate
set_option maxRecDepth 20000 in
theorem ggL_law_X7_writeCertificate : GoodIn wsL_law wsX7_writeCertificate := goodIn_ca (goodIn_r _ [1176, 1177, 533, 534, 535, 5, 536, 537, 538, 539, 540, 103, 207, 208, 209, 210, 211, 212, 213, 214, 215, 322, 323, 324, 325, 1178, 1179, 1180, 1181, 111, 1182, 1183, 1184, 1185, 1186, 1187, 1188, 1189, 461, 462, 463, 464, 314, 315, 316, 317, 318, 319, 320, 321, 311, 312, 313, 1322, 1323, 1324, 1325, 1326, 1327, 1328, 1329, 1330, 1331, 1332, 1333, 1334, 1335, 1336, 1337, 1338, 1339, 1340, 1341, 1342] (by decide +kernel) (by decide +kernel)) (goodIn_sub (fun _ h => List.mem_append_left _ (List.mem_append_left _ (List.mem_append_left _ (List.mem_append_left _ (List.mem_append_left _ (List.mem_append_left _ (List.mem_append_right _ h))))))) (by decide +kernel))
set_option maxRecDepth 20000 in
theorem gL_law_X7_writeCertificate : GoodIn wsL_law (wsV RL 290 RX7 yX7_writeCertificate wsX7_writeCertificate) := goodIn_app (goodIn_of _ (by decide +kernel)) ggL_law_X7_writeCertificate
set_option maxRecDepth 20000 in
theorem ggL_law_X6_writeFields : GoodIn wsL_law wsX6_writeFields := goodIn_ca (goodIn_r _ [1193, 17, 32, 280, 281, 282, 16, 283, 133, 284, 285, 286, 287, 131, 288, 289, 290, 291, 132, 44, 43, 45, 46, 47, 163, 164, 165, 42, 166, 58, 278, 2, 279, 292, 293, 294, 295, 1027, 1028, 1029, 31, 1030, 1031, 1032, 1033, 1034, 84, 1035, 1036, 1037, 1038, 1039, 89, 1040, 1041, 1042, 1043, 1044, 1045, 90, 1046, 1047, 1048, 1049, 1050, 1051, 1052, 1053, 1054, 1055, 1056, 54, 55, 56, 1057, 1058, 1059, 1060, 1061, 1062, 1063, 1064, 1065, 1066, 1067, 1068, 1069, 1070, 88, 1071, 141, 142, 1072, 144, 145, 146, 1073, 1074, 1075, 1076, 1077, 87, 1078, 1079, 901, 1080, 1081, 1082, 1083, 1084, 1085, 1086, 1087, 30, 1088, 1089, 1090, 1091, 1092, 93, 1093, 1094, 1095, 1096, 1097, 1098, 1099, 1100, 1101, 1102, 1103, 1104, 1105, 1106, 1107, 1108, 1109, 1110, 91, 92, 94, 95, 96, 97, 98, 1111, 1112, 1113, 1114, 1115, 1116, 1117, 1118, 1119, 917, 918, 919, 1120, 1121, 882, 1122, 906, 1123, 1124, 909, 1125, 1126, 1127, 1128, 924, 925, 926, 1129, 1130, 1131, 914, 915, 916, 920, 904, 905, 907, 908, 910, 1194, 1195, 1196, 1197, 1198, 160, 161, 162, 130, 673, 674, 675, 676, 677, 678, 679, 680, 681, 1165, 1166, 1167, 1168, 1169, 1170, 1171, 1172, 1310, 1311, 1312, 1313, 1314, 1315, 1316, 1317, 1318, 1319, 1320, 1321, 1343, 1344, 1345, 1346, 1347, 1348, 1349, 1350, 1351, 1352, 1353, 1354, 1367, 1372, 1373, 1374, 1375, 1376, 1377, 1363, 1364, 1365, 1366, 1378, 1379, 1380, 1381, 1382, 1383] (by decide +kernel) (by decide +kernel)) (goodIn_sub (fun _ h => List.mem_append_left _ (List.mem_append_left _ (List.mem_append_left _ (List.mem_append_left _ (List.mem_append_left _ (List.mem_append_left _ (List.mem_append_right _ h))))))) (by decide +kernel))
set_option maxRecDepth 20000 in
theorem gL_law_X6_writeFields : GoodIn wsL_law (wsV RL 291 RX6 yX6_writeFields wsX6_writeFields) := goodIn_app (goodIn_of _ (by decide +kernel)) ggL_law_X6_writeFields
set_option maxRecDepth 20000 in
theorem ggL_law_X7_writeFields : GoodIn wsL_law wsX7_writeFields := goodIn_ca (goodIn_r _ [1202, 214, 103, 1177, 694, 695, 696, 5, 697, 314, 315, 316, 317, 318, 319, 320, 321, 322, 323, 324, 325, 311, 312, 313, 698, 699, 700, 1178, 1179, 1180, 1181, 111, 223, 224, 225, 226, 1322, 1323, 1324, 1325, 1326, 1327, 1328, 1329, 1330, 1331, 1332, 1333, 1334, 1335, 1336, 1337, 1338, 1339, 1340, 1341, 1342] (by decide +kernel) (by decide +kernel)) (goodIn_sub (fun _ h => List.mem_append_left _ (List.mem_append_left _ (List.mem_append_left _ (List.mem_append_left _ (List.mem_append_left _ (List.mem_append_left _ (List.mem_append_right _ h))))))) (by decide +kernel))
set_option maxRecDepth 20000 in
theorem gL_law_X7_writeFields : GoodIn wsL_law (wsV RL 294 RX7 yX7_writeFields wsX7_writeFields) := goodIn_app (goodIn_of _ (by decide +kernel)) ggL_law_X7_writeFields
set_option maxRecDepth 20000 in
theorem ggL_law_L_lineCharacter : GoodIn wsL_law wsL_lineCharacter := goodIn_ca (goodIn_ca (goodIn_r _ [1205, 243, 1206, 1207, 1208, 2, 1209, 179, 180, 32, 1165, 1166, 1167, 31, 1168, 1169, 1170, 1033, 1171, 84, 1172, 1039, 1210, 1211, 1212, 1213, 1214, 1215, 1216, 1217, 90, 89, 1218, 141, 55, 142, 1219, 904, 882, 905, 906, 907, 908, 909, 910, 1220, 922, 93, 923, 924, 925, 926, 917, 918, 919, 1310, 1311, 1312, 1313, 1314, 1315, 1316, 1317, 1318, 1319, 1320, 1321, 1363, 1364, 1365, 1366] (by decide +kernel) (by decide +kernel)) (goodIn_sub (fun _ h => List.mem_append_left _ (List.mem_append_left _ (List.mem_append_left _ (List.mem_append_left _ (List.mem_append_left _ (List.mem_append_left _ (List.mem_append_right _ h))))))) (by decide +kernel))) (goodIn_sub (fun _ h => List.mem_append_left _ (List.mem_append_left _ (List.mem_append_left _ (List.mem_append_left _ (List.mem_append_left _ (List.mem_append_right _ h)))))) (by decide +kernel))
set_option maxRecDepth 20000 in
theorem gL_law_L_lineCharacter : GoodIn wsL_law (va_wsS RL 295 yL_lineCharacter wsL_lineCharacter) := goodIn_app (goodIn_of _ (by decide +kernel)) ggL_law_L_lineCharacter
set_option maxRecDepth 20000 in
theorem ggL_law_X7_lineCharacter : GoodIn wsL_law wsX7_lineCharacter := goodIn_ca (goodIn_r _ [1224, 1177, 111, 207, 208, 5, 209, 210, 211, 212, 213, 214, 215, 1322, 1323, 1324, 1325, 1326, 1327, 1328, 1329, 1330, 1331, 1332, 1333, 1334, 1335, 1336, 1337, 1338, 1339, 1340, 1341, 1342] (by decide +kernel) (by decide +kernel)) (goodIn_sub (fun _ h => List.mem_append_left _ (List.mem_append_left _ (List.mem_append_left _ (List.mem_append_left _ (List.mem_append_left _ (List.mem_append_left _ (List.mem_append_right _ h))))))) (by decide +kernel))
set_option maxRecDepth 20000 in
theorem gL_law_X7_lineCharacter : GoodIn wsL_law (wsV RL 297 RX7 yX7_lineCharacter wsX7_lineCharacter) := goodIn_app (goodIn_of _ (by decide +kernel)) ggL_law_X7_lineCharacter
set_option maxRecDepth 20000 in
theorem ggL_law_L_denial : GoodIn wsL_law wsL_denial := goodIn_ca (goodIn_ca (goodIn_r _ [1227, 435, 1228, 1229, 1230, 2, 1231, 34, 1232, 1233, 1234, 1235, 359, 360, 1310, 1311, 1312, 1313, 1314, 1315, 1316, 1317, 1318, 1319, 1320, 1321] (by decide +kernel) (by decide +kernel)) (goodIn_sub (fun _ h => List.mem_append_left _ (List.mem_append_left _ (List.mem_append_left _ (List.mem_append_left _ (List.mem_append_left _ (List.mem_append_left _ (List.mem_append_right _ h))))))) (by decide +kernel))) (goodIn_sub (fun _ h => List.mem_append_left _ (List.mem_append_left _ (List.mem_append_right _ h))) (by decide +kernel))
set_option maxRecDepth 20000 in
theorem gL_law_L_denial : GoodIn wsL_law (va_wsS RL 298 yL_denial wsL_denial) := goodIn_app (goodIn_of _ (by decide +kernel)) ggL_law_L_denial
set_option maxRecDepth 20000 in
theorem ggL_law_X7_denial : GoodIn wsL_law wsX7_denial := goodIn_r _ [1239, 220, 210, 211, 212, 5, 213, 214, 215, 1322, 1323, 1324, 1325, 1326, 1327, 1328, 1329, 1330, 1331, 1332, 1333, 1334, 1335, 1336, 1337, 1338, 1339, 1340, 1341, 1342] (by decide +kernel) (by decide +kernel)
set_option maxRecDepth 20000 in
theorem gL_law_X7_denial : GoodIn wsL_law (wsV RL 300 RX7 yX7_denial wsX7_denial) := goodIn_app (goodIn_of _ (by decide +kernel)) ggL_law_X7_denial
set_option maxRecDepth 20000 in
theorem ggL_law_L_denialDetail : GoodIn wsL_law wsL_denialDetail := goodIn_ca (goodIn_ca (goodIn_r _ [1242, 435, 1243, 1244, 1245, 2, 1246, 158, 1232, 1233, 1234, 1235, 359, 360, 34, 1310, 1311, 1312, 1313, 1314, 1315, 1316, 1317, 1318, 1319, 1320, 1321] (by decide +kernel) (by decide +kernel)) (goodIn_sub (fun _ h => List.mem_append_left _ (List.mem_append_left _ (List.mem_append_left _ (List.mem_append_left _ (List.mem_append_left _ (List.mem_append_left _ (List.mem_append_right _ h))))))) (by decide +kernel))) (goodIn_sub (fun _ h => List.mem_append_left _ (List.mem_append_left _ (List.mem_append_right _ h))) (by decide +kernel))
set_option maxRecDepth 20000 in
theorem gL_law_L_denialDetail : GoodIn wsL_law (va_wsS RL 301 yL_denialDetail wsL_denialDetail) := goodIn_app (goodIn_of _ (by decide +kernel)) ggL_law_L_denialDetail
set_option maxRecDepth 20000 in
theorem ggL_law_X7_denialDetail : GoodIn wsL_law wsX7_denialDetail := goodIn_r _ [1250, 220, 221, 210, 211, 212, 5, 213, 214, 215, 1322, 1323, 1324, 1325, 1326, 1327, 1328, 1329, 1330, 1331, 1332, 1333, 1334, 1335, 1336, 1337, 1338, 1339, 1340, 1341, 1342] (by decide +kernel) (by decide +kernel)
set_option maxRecDepth 20000 in
theorem gL_law_X7_denialDetail : GoodIn wsL_law (wsV RL 303 RX7 yX7_denialDetail wsX7_denialDetail) := goodIn_app (goodIn_of _ (by decide +kernel)) ggL_law_X7_denialDetail
set_option maxRecDepth 20000 in
theorem ggL_law_L_denialCause : GoodIn wsL_law wsL_denialCause := goodIn_ca (goodIn_ca (goodIn_r _ [1253, 435, 1254, 1255, 1256, 2, 1257, 359, 360, 35, 1310, 1311, 1312, 1313, 1314, 1315, 1316, 1317, 1318, 1319, 1320, 1321] (by decide +kernel) (by decide +kernel)) (goodIn_sub (fun _ h => List.mem_append_left _ (List.mem_append_left _ (List.mem_append_left _ (List.mem_append_left _ (List.mem_append_left _ (List.mem_append_left _ (List.mem_append_right _ h))))))) (by decide +kernel))) (goodIn_sub (fun _ h => List.mem_append_left _ (List.mem_append_left _ (List.mem_append_right _ h))) (by decide +kernel))
set_option maxRecDepth 20000 in
theorem gL_law_L_denialCause : GoodIn wsL_law (va_wsS RL 304 yL_denialCause wsL_denialCause) := goodIn_app (goodIn_of _ (by decide +kernel)) ggL_law_L_denialCause
set_option maxRecDepth 20000 in
theorem ggL_law_X7_denialCause : GoodIn wsL_law wsX7_denialCause := goodIn_r _ [1261, 222, 210, 211, 212, 5, 213, 214, 215, 1322, 1323, 1324, 1325, 1326, 1327, 1328, 1329, 1330, 1331, 1332, 1333, 1334, 1335, 1336, 1337, 1338, 1339, 1340, 1341, 1342] (by decide +kernel) (by decide +kernel)
set_option maxRecDepth 20000 in
theorem gL_law_X7_denialCause : GoodIn wsL_law (wsV RL 306 RX7 yX7_denialCause wsX7_denialCause) := goodIn_app (goodIn_of _ (by decide +kernel)) ggL_law_X7_denialCause
set_option maxRecDepth 20000 in
theorem ggL_law_L_undo : GoodIn wsL_law wsL_undo := goodIn_ca (goodIn_ca (goodIn_r _ [1264, 823, 1265, 1266, 1267, 2, 1268, 828, 829, 24, 17, 1269, 1270, 1271, 23, 1272, 189, 195, 196, 197, 198, 190, 68, 191, 192, 193, 194, 199, 127, 128, 16, 129, 43, 130, 131, 44, 45, 46, 47, 132, 48, 133, 134, 135, 136, 137, 138, 42, 139, 58, 140, 141, 55, 142, 143, 144, 145, 146, 1310, 1311, 1312, 1313, 1314, 1315, 1316, 1317, 1318, 1319, 1320, 1321, 1355, 1356, 1357, 1343, 1344, 1345, 1346, 1347, 1348, 1349, 1350, 1351, 1352, 1353, 1354, 1367] (by decide +kernel) (by decide +kernel)) (goodIn_sub (fun _ h => List.mem_append_left _ (List.mem_append_left _ (List.mem_append_left _ (List.mem_append_left _ (List.mem_append_left _ (List.mem_append_left _ (List.mem_append_right _ h))))))) (by decide +kernel))) (goodIn_sub (fun _ h => List.mem_append_right _ h) (by decide +kernel))
set_option maxRecDepth 20000 in
theorem gL_law_L_undo : GoodIn wsL_law (va_wsS RL 307 yL_undo wsL_undo) := goodIn_app (goodIn_of _ (by decide +kernel)) ggL_law_L_undo
set_option maxRecDepth 20000 in
theorem ggL_law_X7_undo : GoodIn wsL_law wsX7_undo := goodIn_ca (goodIn_r _ [1276, 232, 104, 103, 210, 211, 212, 5, 213, 214, 215, 233, 234, 235, 1322, 1323, 1324, 1325, 1326, 1327, 1328, 1329, 1330, 1331, 1332, 1333, 1334, 1335, 1336, 1337, 1338, 1339, 1340, 1341, 1342] (by decide +kernel) (by decide +kernel)) (goodIn_sub (fun _ h => List.mem_append_left _ (List.mem_append_left _ (List.mem_append_left _ (List.mem_append_left _ (List.mem_append_left _ (List.mem_append_left _ (List.mem_append_right _ h))))))) (by decide +kernel))
set_option maxRecDepth 20000 in
theorem gL_law_X7_undo : GoodIn wsL_law (wsV RL 309 RX7 yX7_undo wsX7_undo) := goodIn_app (goodIn_of _ (by decide +kernel)) ggL_law_X7_undo
set_option maxRecDepth 20000 in
theorem ggL_law_X6_undoCount : GoodIn wsL_law wsX6_undoCount := goodIn_r _ [1280, 24, 1310, 1311, 1312, 1313, 1314, 1315, 1316, 1317, 1318, 1319, 1320, 1321, 1355, 1356, 1357] (by decide +kernel) (by decide +kernel)
set_option maxRecDepth 20000 in
theorem gL_law_X6_undoCount : GoodIn wsL_law (wsV RL 310 RX6 yX6_undoCount wsX6_undoCount) := goodIn_app (goodIn_of _ (by decide +kernel)) ggL_law_X6_undoCount
set_option maxRecDepth 20000 in
theorem ggL_law_X7_undoCount : GoodIn wsL_law wsX7_undoCount := goodIn_r _ [1284, 214, 232, 1322, 1323, 1324, 1325, 1326, 1327, 1328, 1329, 1330, 1331, 1332, 1333, 1334, 1335, 1336, 1337, 1338, 1339, 1340, 1341, 1342] (by decide +kernel) (by decide +kernel)
set_option maxRecDepth 20000 in
theorem gL_law_X7_undoCount : GoodIn wsL_law (wsV RL 313 RX7 yX7_undoCount wsX7_undoCount) := goodIn_app (goodIn_of _ (by decide +kernel)) ggL_law_X7_undoCount
set_option maxRecDepth 20000 in
theorem ggL_law_X6_saveSnapshot : GoodIn wsL_law wsX6_saveSnapshot := goodIn_r _ [1288, 20, 17, 1289, 126, 127, 128, 16, 129, 43, 130, 131, 44, 45, 46, 47, 132, 48, 133, 134, 135, 136, 137, 138, 42, 139, 58, 140, 141, 55, 142, 143, 144, 145, 146, 1310, 1311, 1312, 1313, 1314, 1315, 1316, 1317, 1318, 1319, 1320, 1321, 1343, 1344, 1345, 1346, 1347, 1348, 1349, 1350, 1351, 1352, 1353, 1354, 1367] (by decide +kernel) (by decide +kernel)
set_option maxRecDepth 20000 in
theorem gL_law_X6_saveSnapshot : GoodIn wsL_law (wsV RL 314 RX6 yX6_saveSnapshot wsX6_saveSnapshot) := goodIn_app (goodIn_of _ (by decide +kernel)) ggL_law_X6_saveSnapshot
set_option maxRecDepth 20000 in
theorem ggL_law_X7_saveSnapshot : GoodIn wsL_law wsX7_saveSnapshot := goodIn_ca (goodIn_r _ [1293, 214, 1294, 103, 105, 233, 234, 5, 235, 1322, 1323, 1324, 1325, 1326, 1327, 1328, 1329, 1330, 1331, 1332, 1333, 1334, 1335, 1336, 1337, 1338, 1339, 1340, 1341, 1342] (by decide +kernel) (by decide +kernel)) (goodIn_sub (fun _ h => List.mem_append_left _ (List.mem_append_left _ (List.mem_append_left _ (List.mem_append_left _ (List.mem_append_left _ (List.mem_append_left _ (List.mem_append_right _ h))))))) (by decide +kernel))
set_option maxRecDepth 20000 in
theorem gL_law_X7_saveSnapshot : GoodIn wsL_law (wsV RL 317 RX7 yX7_saveSnapshot wsX7_saveSnapshot) := goodIn_app (goodIn_of _ (by decide +kernel)) ggL_law_X7_saveSnapshot
set_option maxRecDepth 20000 in
theorem ggL_law_L_restoreSnapshot : GoodIn wsL_law wsL_restoreSnapshot := goodIn_ca (goodIn_ca (goodIn_r _ [1297, 823, 1298, 1299, 1300, 2, 1301, 828, 829, 1289, 17, 20, 24, 126, 127, 128, 16, 129, 43, 130, 131, 44, 45, 46, 47, 132, 48, 133, 134, 135, 136, 137, 138, 42, 139, 58, 140, 141, 55, 142, 143, 144, 145, 146, 1302, 1303, 1304, 23, 1305, 189, 1310, 1311, 1312, 1313, 1314, 1315, 1316, 1317, 1318, 1319, 1320, 1321, 1343, 1344, 1345, 1346, 1347, 1348, 1349, 1350, 1351, 1352, 1353, 1354, 1367, 1355, 1356, 1357] (by decide +kernel) (by decide +kernel)) (goodIn_sub (fun _ h => List.mem_append_left _ (List.mem_append_left _ (List.mem_append_left _ (List.mem_append_left _ (List.mem_append_left _ (List.mem_append_left _ (List.mem_append_right _ h))))))) (by decide +kernel))) (goodIn_sub (fun _ h => List.mem_append_right _ h) (by decide +kernel))
set_option maxRecDepth 20000 in
theorem gL_law_L_restoreSnapshot : GoodIn wsL_law (va_wsS RL 318 yL_restoreSnapshot wsL_restoreSnapshot) := goodIn_app (goodIn_of _ (by decide +kernel)) ggL_law_L_restoreSnapshot
set_option maxRecDepth 20000 in
theorem ggL_law_X7_restoreSnapshot : GoodIn wsL_law wsX7_restoreSnapshot := goodIn_ca (goodIn_r _ [1309, 1294, 105, 103, 232, 210, 211, 212, 5, 213, 214, 215, 233, 234, 235, 1322, 1323, 1324, 1325, 1326, 1327, 1328, 1329, 1330, 1331, 1332, 1333, 1334, 1335, 1336, 1337, 1338, 1339, 1340, 1341, 1342] (by decide +kernel) (by decide +kernel)) (goodIn_sub (fun _ h => List.mem_append_left _ (List.mem_append_left _ (List.mem_append_left _ (List.mem_append_left _ (List.mem_append_left _ (List.mem_append_left _ (List.mem_append_right _ h))))))) (by decide +kernel))
set_option maxRecDepth 20000 in
theorem gL_law_X7_restoreSnapshot : GoodIn wsL_law (wsV RL 320 RX7 yX7_restoreSnapshot wsX7_restoreSnapshot) := goodIn_app (goodIn_of _ (by decide +kernel)) ggL_law_X7_restoreSnapshot
theorem dL_law_0 : decode cL_law 0 = .ok (.new 8, 3) := by decide +kernel
theorem dL_law_3 : decode cL_law 3 = .ok (.dup, 1) := by decide +kernel
theorem dL_law_4 : decode cL_law 4 = .ok (.invokespecial 142, 3) := by decide +kernel
theorem dL_law_7 : decode cL_law 7 = .ok (.astore_n 1, 1) := by decide +kernel
theorem dL_law_8 : decode cL_law 8 = .ok (.new 143, 3) := by decide +kernel
theorem dL_law_11 : decode cL_law 11 = .ok (.dup, 1) := by decide +kernel
theorem dL_law_12 : decode cL_law 12 = .ok (.invokespecial 145, 3) := by decide +kernel
theorem dL_law_15 : decode cL_law 15 = .ok (.astore_n 2, 1) := by decide +kernel
theorem dL_law_16 : decode cL_law 16 = .ok (.iconst 1, 1) := by decide +kernel
theorem dL_law_17 : decode cL_law 17 = .ok (.newarray .long, 2) := by decide +kernel
theorem dL_law_19 : decode cL_law 19 = .ok (.astore_n 3, 1) := by decide +kernel
theorem dL_law_20 : decode cL_law 20 = .ok (.iconst 1, 1) := by decide +kernel
theorem dL_law_21 : decode cL_law 21 = .ok (.newarray .double, 2) := by decide +kernel
theorem dL_law_23 : decode cL_law 23 = .ok (.astore 4, 2) := by decide +kernel
theorem dL_law_25 : decode cL_law 25 = .ok (.iconst 0, 1) := by decide +kernel
theorem dL_law_26 : decode cL_law 26 = .ok (.istore 5, 2) := by decide +kernel
theorem dL_law_28 : decode cL_law 28 = .ok (.iload 5, 2) := by decide +kernel
theorem dL_law_30 : decode cL_law 30 = .ok (.aload_n 0, 1) := by decide +kernel
theorem dL_law_31 : decode cL_law 31 = .ok (.arraylength, 1) := by decide +kernel
theorem dL_law_32 : decode cL_law 32 = .ok (.iconst 4, 1) := by decide +kernel
theorem dL_law_33 : decode cL_law 33 = .ok (.isub, 1) := by decide +kernel
theorem dL_law_34 : decode cL_law 34 = .ok (.if_icmp .gt 2540, 3) := by decide +kernel
theorem dL_law_37 : decode cL_law 37 = .ok (.aload_n 0, 1) := by decide +kernel
theorem dL_law_38 : decode cL_law 38 = .ok (.iload 5, 2) := by decide +kernel
theorem dL_law_40 : decode cL_law 40 = .ok (.iaload, 1) := by decide +kernel
theorem dL_law_41 : decode cL_law 41 = .ok (.bipush 63, 2) := by decide +kernel
theorem dL_law_43 : decode cL_law 43 = .ok (.iand, 1) := by decide +kernel
theorem dL_law_44 : decode cL_law 44 = .ok (.tableswitch 2524 0 49 #[216, 272, 340, 424, 437, 493, 549, 612, 675, 738, 794, 850, 906, 974, 1054, 1110, 1123, 1186, 1242, 1298, 1354, 1410, 1473, 1486, 1554, 1610, 1666, 1679, 1692, 1748, 1811, 1824, 1837, 1850, 1863, 1876, 1941, 2007, 2065, 2109, 2153, 2209, 2222, 2278, 2322, 2366, 2410, 2454, 2467, 2480], 216) := by decide +kernel
theorem dL_law_260 : decode cL_law 260 = .ok (.aload_n 1, 1) := by decide +kernel
theorem dL_law_261 : decode cL_law 261 = .ok (.aload_n 0, 1) := by decide +kernel
theorem dL_law_262 : decode cL_law 262 = .ok (.iload 5, 2) := by decide +kernel
theorem dL_law_264 : decode cL_law 264 = .ok (.iconst 1, 1) := by decide +kernel
theorem dL_law_265 : decode cL_law 265 = .ok (.iadd, 1) := by decide +kernel
theorem dL_law_266 : decode cL_law 266 = .ok (.iaload, 1) := by decide +kernel
theorem dL_law_267 : decode cL_law 267 = .ok (.aload_n 3, 1) := by decide +kernel
theorem dL_law_268 : decode cL_law 268 = .ok (.invokestatic 146, 3) := by decide +kernel
theorem dL_law_271 : decode cL_law 271 = .ok (.istore 6, 2) := by decide +kernel
theorem dL_law_273 : decode cL_law 273 = .ok (.aload_n 2, 1) := by decide +kernel
theorem dL_law_274 : decode cL_law 274 = .ok (.aload_n 0, 1) := by decide +kernel
theorem dL_law_275 : decode cL_law 275 = .ok (.iload 5, 2) := by decide +kernel
theorem dL_law_277 : decode cL_law 277 = .ok (.iconst 1, 1) := by decide +kernel
theorem dL_law_278 : decode cL_law 278 = .ok (.iadd, 1) := by decide +kernel
theorem dL_law_279 : decode cL_law 279 = .ok (.iaload, 1) := by decide +kernel
theorem dL_law_280 : decode cL_law 280 = .ok (.invokevirtual 151, 3) := by decide +kernel
theorem dL_law_283 : decode cL_law 283 = .ok (.istore 7, 2) := by decide +kernel
theorem dL_law_285 : decode cL_law 285 = .ok (.aload_n 2, 1) := by decide +kernel
theorem dL_law_286 : decode cL_law 286 = .ok (.invokevirtual 152, 3) := by decide +kernel
theorem dL_law_289 : decode cL_law 289 = .ok (.iload 6, 2) := by decide +kernel
theorem dL_law_291 : decode cL_law 291 = .ok (.if_icmp .eq 5, 3) := by decide +kernel
theorem dL_law_294 : decode cL_law 294 = .ok (.iconst 0, 1) := by decide +kernel
theorem dL_law_295 : decode cL_law 295 = .ok (.ireturn, 1) := by decide +kernel
theorem dL_law_296 : decode cL_law 296 = .ok (.iload 6, 2) := by decide +kernel
theorem dL_law_298 : decode cL_law 298 = .ok (.ifCond .ne 15, 3) := by decide +kernel
theorem dL_law_301 : decode cL_law 301 = .ok (.aload_n 3, 1) := by decide +kernel
theorem dL_law_302 : decode cL_law 302 = .ok (.iconst 0, 1) := by decide +kernel
theorem dL_law_303 : decode cL_law 303 = .ok (.laload, 1) := by decide +kernel
theorem dL_law_304 : decode cL_law 304 = .ok (.iload 7, 2) := by decide +kernel
theorem dL_law_306 : decode cL_law 306 = .ok (.i2l, 1) := by decide +kernel
theorem dL_law_307 : decode cL_law 307 = .ok (.lcmp, 1) := by decide +kernel
theorem dL_law_308 : decode cL_law 308 = .ok (.ifCond .eq 5, 3) := by decide +kernel
theorem dL_law_311 : decode cL_law 311 = .ok (.iconst 0, 1) := by decide +kernel
theorem dL_law_312 : decode cL_law 312 = .ok (.ireturn, 1) := by decide +kernel
theorem dL_law_313 : decode cL_law 313 = .ok (.goto 2255, 3) := by decide +kernel
theorem dL_law_316 : decode cL_law 316 = .ok (.aload_n 1, 1) := by decide +kernel
theorem dL_law_317 : decode cL_law 317 = .ok (.aload_n 0, 1) := by decide +kernel
theorem dL_law_318 : decode cL_law 318 = .ok (.iload 5, 2) := by decide +kernel
theorem dL_law_320 : decode cL_law 320 = .ok (.iconst 1, 1) := by decide +kernel
theorem dL_law_321 : decode cL_law 321 = .ok (.iadd, 1) := by decide +kernel
theorem dL_law_322 : decode cL_law 322 = .ok (.iaload, 1) := by decide +kernel
theorem dL_law_323 : decode cL_law 323 = .ok (.aload_n 0, 1) := by decide +kernel
theorem dL_law_324 : decode cL_law 324 = .ok (.iload 5, 2) := by decide +kernel
theorem dL_law_326 : decode cL_law 326 = .ok (.iconst 2, 1) := by decide +kernel
theorem dL_law_327 : decode cL_law 327 = .ok (.iadd, 1) := by decide +kernel
theorem dL_law_328 : decode cL_law 328 = .ok (.iaload, 1) := by decide +kernel
theorem dL_law_329 : decode cL_law 329 = .ok (.aload_n 3, 1) := by decide +kernel
theorem dL_law_330 : decode cL_law 330 = .ok (.invokestatic 155, 3) := by decide +kernel
theorem dL_law_333 : decode cL_law 333 = .ok (.istore 6, 2) := by decide +kernel
theorem dL_law_335 : decode cL_law 335 = .ok (.aload_n 2, 1) := by decide +kernel
theorem dL_law_336 : decode cL_law 336 = .ok (.aload_n 0, 1) := by decide +kernel
theorem dL_law_337 : decode cL_law 337 = .ok (.iload 5, 2) := by decide +kernel
theorem dL_law_339 : decode cL_law 339 = .ok (.iconst 1, 1) := by decide +kernel
theorem dL_law_340 : decode cL_law 340 = .ok (.iadd, 1) := by decide +kernel
theorem dL_law_341 : decode cL_law 341 = .ok (.iaload, 1) := by decide +kernel
theorem dL_law_342 : decode cL_law 342 = .ok (.aload_n 0, 1) := by decide +kernel
theorem dL_law_343 : decode cL_law 343 = .ok (.iload 5, 2) := by decide +kernel
theorem dL_law_345 : decode cL_law 345 = .ok (.iconst 2, 1) := by decide +kernel
theorem dL_law_346 : decode cL_law 346 = .ok (.iadd, 1) := by decide +kernel
theorem dL_law_347 : decode cL_law 347 = .ok (.iaload, 1) := by decide +kernel
theorem dL_law_348 : decode cL_law 348 = .ok (.invokevirtual 158, 3) := by decide +kernel
theorem dL_law_351 : decode cL_law 351 = .ok (.istore 7, 2) := by decide +kernel
theorem dL_law_353 : decode cL_law 353 = .ok (.aload_n 2, 1) := by decide +kernel
theorem dL_law_354 : decode cL_law 354 = .ok (.invokevirtual 152, 3) := by decide +kernel
theorem dL_law_357 : decode cL_law 357 = .ok (.iload 6, 2) := by decide +kernel
theorem dL_law_359 : decode cL_law 359 = .ok (.if_icmp .eq 5, 3) := by decide +kernel
theorem dL_law_362 : decode cL_law 362 = .ok (.iconst 0, 1) := by decide +kernel
theorem dL_law_363 : decode cL_law 363 = .ok (.ireturn, 1) := by decide +kernel
theorem dL_law_364 : decode cL_law 364 = .ok (.iload 6, 2) := by decide +kernel
theorem dL_law_366 : decode cL_law 366 = .ok (.ifCond .ne 15, 3) := by decide +kernel
theorem dL_law_369 : decode cL_law 369 = .ok (.aload_n 3, 1) := by decide +kernel
theorem dL_law_370 : decode cL_law 370 = .ok (.iconst 0, 1) := by decide +kernel
theorem dL_law_371 : decode cL_law 371 = .ok (.laload, 1) := by decide +kernel
theorem dL_law_372 : decode cL_law 372 = .ok (.iload 7, 2) := by decide +kernel
theorem dL_law_374 : decode cL_law 374 = .ok (.i2l, 1) := by decide +kernel
theorem dL_law_375 : decode cL_law 375 = .ok (.lcmp, 1) := by decide +kernel
theorem dL_law_376 : decode cL_law 376 = .ok (.ifCond .eq 5, 3) := by decide +kernel
theorem dL_law_379 : decode cL_law 379 = .ok (.iconst 0, 1) := by decide +kernel
theorem dL_law_380 : decode cL_law 380 = .ok (.ireturn, 1) := by decide +kernel
theorem dL_law_381 : decode cL_law 381 = .ok (.goto 2187, 3) := by decide +kernel
theorem dL_law_384 : decode cL_law 384 = .ok (.aload_n 1, 1) := by decide +kernel
theorem dL_law_385 : decode cL_law 385 = .ok (.aload_n 0, 1) := by decide +kernel
theorem dL_law_386 : decode cL_law 386 = .ok (.iload 5, 2) := by decide +kernel
theorem dL_law_388 : decode cL_law 388 = .ok (.iconst 1, 1) := by decide +kernel
theorem dL_law_389 : decode cL_law 389 = .ok (.iadd, 1) := by decide +kernel
theorem dL_law_390 : decode cL_law 390 = .ok (.iaload, 1) := by decide +kernel
theorem dL_law_391 : decode cL_law 391 = .ok (.aload_n 0, 1) := by decide +kernel
theorem dL_law_392 : decode cL_law 392 = .ok (.iload 5, 2) := by decide +kernel
theorem dL_law_394 : decode cL_law 394 = .ok (.iconst 2, 1) := by decide +kernel
theorem dL_law_395 : decode cL_law 395 = .ok (.iadd, 1) := by decide +kernel
theorem dL_law_396 : decode cL_law 396 = .ok (.iaload, 1) := by decide +kernel
theorem dL_law_397 : decode cL_law 397 = .ok (.ifCond .eq 7, 3) := by decide +kernel
theorem dL_law_400 : decode cL_law 400 = .ok (.iconst 1, 1) := by decide +kernel
theorem dL_law_401 : decode cL_law 401 = .ok (.goto 4, 3) := by decide +kernel
theorem dL_law_404 : decode cL_law 404 = .ok (.iconst 0, 1) := by decide +kernel
theorem dL_law_405 : decode cL_law 405 = .ok (.aload_n 3, 1) := by decide +kernel
theorem dL_law_406 : decode cL_law 406 = .ok (.invokestatic 159, 3) := by decide +kernel
theorem dL_law_409 : decode cL_law 409 = .ok (.istore 6, 2) := by decide +kernel
theorem dL_law_411 : decode cL_law 411 = .ok (.aload_n 2, 1) := by decide +kernel
theorem dL_law_412 : decode cL_law 412 = .ok (.aload_n 0, 1) := by decide +kernel
theorem dL_law_413 : decode cL_law 413 = .ok (.iload 5, 2) := by decide +kernel
theorem dL_law_415 : decode cL_law 415 = .ok (.iconst 1, 1) := by decide +kernel
theorem dL_law_416 : decode cL_law 416 = .ok (.iadd, 1) := by decide +kernel
theorem dL_law_417 : decode cL_law 417 = .ok (.iaload, 1) := by decide +kernel
theorem dL_law_418 : decode cL_law 418 = .ok (.aload_n 0, 1) := by decide +kernel
theorem dL_law_419 : decode cL_law 419 = .ok (.iload 5, 2) := by decide +kernel
theorem dL_law_421 : decode cL_law 421 = .ok (.iconst 2, 1) := by decide +kernel
theorem dL_law_422 : decode cL_law 422 = .ok (.iadd, 1) := by decide +kernel
theorem dL_law_423 : decode cL_law 423 = .ok (.iaload, 1) := by decide +kernel
theorem dL_law_424 : decode cL_law 424 = .ok (.ifCond .eq 7, 3) := by decide +kernel
theorem dL_law_427 : decode cL_law 427 = .ok (.iconst 1, 1) := by decide +kernel
theorem dL_law_428 : decode cL_law 428 = .ok (.goto 4, 3) := by decide +kernel
theorem dL_law_431 : decode cL_law 431 = .ok (.iconst 0, 1) := by decide +kernel
theorem dL_law_432 : decode cL_law 432 = .ok (.invokevirtual 162, 3) := by decide +kernel
theorem dL_law_435 : decode cL_law 435 = .ok (.istore 7, 2) := by decide +kernel
theorem dL_law_437 : decode cL_law 437 = .ok (.aload_n 2, 1) := by decide +kernel
theorem dL_law_438 : decode cL_law 438 = .ok (.invokevirtual 152, 3) := by decide +kernel
theorem dL_law_441 : decode cL_law 441 = .ok (.iload 6, 2) := by decide +kernel
theorem dL_law_443 : decode cL_law 443 = .ok (.if_icmp .eq 5, 3) := by decide +kernel
theorem dL_law_446 : decode cL_law 446 = .ok (.iconst 0, 1) := by decide +kernel
theorem dL_law_447 : decode cL_law 447 = .ok (.ireturn, 1) := by decide +kernel
theorem dL_law_448 : decode cL_law 448 = .ok (.iload 6, 2) := by decide +kernel
theorem dL_law_450 : decode cL_law 450 = .ok (.ifCond .ne 15, 3) := by decide +kernel
theorem dL_law_453 : decode cL_law 453 = .ok (.aload_n 3, 1) := by decide +kernel
theorem dL_law_454 : decode cL_law 454 = .ok (.iconst 0, 1) := by decide +kernel
theorem dL_law_455 : decode cL_law 455 = .ok (.laload, 1) := by decide +kernel
theorem dL_law_456 : decode cL_law 456 = .ok (.iload 7, 2) := by decide +kernel
theorem dL_law_458 : decode cL_law 458 = .ok (.i2l, 1) := by decide +kernel
theorem dL_law_459 : decode cL_law 459 = .ok (.lcmp, 1) := by decide +kernel
theorem dL_law_460 : decode cL_law 460 = .ok (.ifCond .eq 5, 3) := by decide +kernel
theorem dL_law_463 : decode cL_law 463 = .ok (.iconst 0, 1) := by decide +kernel
theorem dL_law_464 : decode cL_law 464 = .ok (.ireturn, 1) := by decide +kernel
theorem dL_law_465 : decode cL_law 465 = .ok (.goto 2103, 3) := by decide +kernel
theorem dL_law_468 : decode cL_law 468 = .ok (.aload_n 1, 1) := by decide +kernel
theorem dL_law_469 : decode cL_law 469 = .ok (.invokevirtual 163, 3) := by decide +kernel
theorem dL_law_472 : decode cL_law 472 = .ok (.aload_n 2, 1) := by decide +kernel
theorem dL_law_473 : decode cL_law 473 = .ok (.invokevirtual 166, 3) := by decide +kernel
theorem dL_law_476 : decode cL_law 476 = .ok (.if_icmp .eq 2092, 3) := by decide +kernel
theorem dL_law_479 : decode cL_law 479 = .ok (.iconst 0, 1) := by decide +kernel
theorem dL_law_480 : decode cL_law 480 = .ok (.ireturn, 1) := by decide +kernel
theorem dL_law_481 : decode cL_law 481 = .ok (.aload_n 1, 1) := by decide +kernel
theorem dL_law_482 : decode cL_law 482 = .ok (.aload_n 0, 1) := by decide +kernel
theorem dL_law_483 : decode cL_law 483 = .ok (.iload 5, 2) := by decide +kernel
theorem dL_law_485 : decode cL_law 485 = .ok (.iconst 1, 1) := by decide +kernel
theorem dL_law_486 : decode cL_law 486 = .ok (.iadd, 1) := by decide +kernel
theorem dL_law_487 : decode cL_law 487 = .ok (.iaload, 1) := by decide +kernel
theorem dL_law_488 : decode cL_law 488 = .ok (.aload_n 3, 1) := by decide +kernel
theorem dL_law_489 : decode cL_law 489 = .ok (.invokestatic 167, 3) := by decide +kernel
theorem dL_law_492 : decode cL_law 492 = .ok (.istore 6, 2) := by decide +kernel
theorem dL_law_494 : decode cL_law 494 = .ok (.aload_n 2, 1) := by decide +kernel
theorem dL_law_495 : decode cL_law 495 = .ok (.aload_n 0, 1) := by decide +kernel
theorem dL_law_496 : decode cL_law 496 = .ok (.iload 5, 2) := by decide +kernel
theorem dL_law_498 : decode cL_law 498 = .ok (.iconst 1, 1) := by decide +kernel
theorem dL_law_499 : decode cL_law 499 = .ok (.iadd, 1) := by decide +kernel
theorem dL_law_500 : decode cL_law 500 = .ok (.iaload, 1) := by decide +kernel
theorem dL_law_501 : decode cL_law 501 = .ok (.invokevirtual 169, 3) := by decide +kernel
theorem dL_law_504 : decode cL_law 504 = .ok (.istore 7, 2) := by decide +kernel
theorem dL_law_506 : decode cL_law 506 = .ok (.aload_n 2, 1) := by decide +kernel
theorem dL_law_507 : decode cL_law 507 = .ok (.invokevirtual 152, 3) := by decide +kernel
theorem dL_law_510 : decode cL_law 510 = .ok (.iload 6, 2) := by decide +kernel
theorem dL_law_512 : decode cL_law 512 = .ok (.if_icmp .eq 5, 3) := by decide +kernel
theorem dL_law_515 : decode cL_law 515 = .ok (.iconst 0, 1) := by decide +kernel
theorem dL_law_516 : decode cL_law 516 = .ok (.ireturn, 1) := by decide +kernel
theorem dL_law_517 : decode cL_law 517 = .ok (.iload 6, 2) := by decide +kernel
theorem dL_law_519 : decode cL_law 519 = .ok (.ifCond .ne 15, 3) := by decide +kernel
theorem dL_law_522 : decode cL_law 522 = .ok (.aload_n 3, 1) := by decide +kernel
theorem dL_law_523 : decode cL_law 523 = .ok (.iconst 0, 1) := by decide +kernel
theorem dL_law_524 : decode cL_law 524 = .ok (.laload, 1) := by decide +kernel
theorem dL_law_525 : decode cL_law 525 = .ok (.iload 7, 2) := by decide +kernel
theorem dL_law_527 : decode cL_law 527 = .ok (.i2l, 1) := by decide +kernel
theorem dL_law_528 : decode cL_law 528 = .ok (.lcmp, 1) := by decide +kernel
theorem dL_law_529 : decode cL_law 529 = .ok (.ifCond .eq 5, 3) := by decide +kernel
theorem dL_law_532 : decode cL_law 532 = .ok (.iconst 0, 1) := by decide +kernel
theorem dL_law_533 : decode cL_law 533 = .ok (.ireturn, 1) := by decide +kernel
theorem dL_law_534 : decode cL_law 534 = .ok (.goto 2034, 3) := by decide +kernel
theorem dL_law_537 : decode cL_law 537 = .ok (.aload_n 1, 1) := by decide +kernel
theorem dL_law_538 : decode cL_law 538 = .ok (.aload_n 0, 1) := by decide +kernel
