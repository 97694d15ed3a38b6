set_option maxRecDepth 20000 in
theorem ggL_law_X9_could : GoodIn wsL_law wsX9_could := goodIn_r _ [921, 16, 39, 440, 441, 442, 15, 443, 56, 890, 891, 892, 38, 893, 104, 894, 895, 73, 74, 75, 896, 897, 898, 899, 900, 901, 902, 903, 559, 560, 561, 61, 62, 904, 563, 564, 565, 566, 567, 568, 905, 551, 552, 553, 67, 554, 555, 556, 557, 69, 68, 66, 70, 558, 562, 922, 923, 924, 925, 1343, 1344, 1345, 1346, 1347, 1348, 1349, 1350, 1351, 1352, 1353, 1354, 1409, 1410, 1411, 1412, 1413, 1414, 1415, 1416, 1417, 1418, 1419, 1420, 1421, 1422, 1435, 1436] (by decide +kernel) (by decide +kernel)
set_option maxRecDepth 20000 in
theorem gL_law_X9_could : GoodIn wsL_law (wsV RL 106 RX9 yX9_could wsX9_could) := goodIn_app (goodIn_of _ (by decide +kernel)) ggL_law_X9_could
set_option maxRecDepth 20000 in
theorem ggL_law_X10_could : GoodIn wsL_law wsX10_could := goodIn_r _ [929, 150, 454, 455, 456, 5, 457, 135, 180, 181, 182, 910, 911, 912, 913, 515, 516, 517, 518, 619, 620, 621, 622, 338, 573, 574, 575, 576, 340, 577, 578, 579, 580, 138, 581, 582, 583, 584, 458, 459, 460, 461, 462, 463, 464, 465, 137, 585, 586, 587, 627, 628, 629, 630, 1355, 1356, 1357, 1358, 1359, 1360, 1361, 1362, 1363, 1364, 1365, 1366, 1367, 1368, 1369, 1370, 1371, 1372, 1373, 1374, 1375, 1376, 1377, 1378, 1379, 1380, 1381, 1382, 1383, 1384, 1385, 1386, 1387, 1388, 1389, 1390, 1391, 1392, 1393, 1394, 1395, 1396, 1397, 1398, 1399, 1400, 1401, 1402, 1403, 1404, 1405, 1406, 1407, 1408] (by decide +kernel) (by decide +kernel)
set_option maxRecDepth 20000 in
theorem gL_law_X10_could : GoodIn wsL_law (wsV RL 109 RX10 yX10_could wsX10_could) := goodIn_app (goodIn_of _ (by decide +kernel)) ggL_law_X10_could
set_option maxRecDepth 20000 in
theorem ggL_law_X9_seed : GoodIn wsL_law wsX9_seed := goodIn_r _ [933, 16, 188, 1343, 1344, 1345, 1346, 1347, 1348, 1349, 1350, 1351, 1352, 1353, 1354, 1409, 1410, 1411, 1412, 1413, 1414, 1415, 1416, 1417, 1418, 1419, 1420, 1421, 1422] (by decide +kernel) (by decide +kernel)
set_option maxRecDepth 20000 in
theorem gL_law_X9_seed : GoodIn wsL_law (wsV RL 110 RX9 yX9_seed wsX9_seed) := goodIn_app (goodIn_of _ (by decide +kernel)) ggL_law_X9_seed
set_option maxRecDepth 20000 in
theorem ggL_law_X10_seed : GoodIn wsL_law wsX10_seed := goodIn_r _ [937, 140, 1355, 1356, 1357, 1358, 1359, 1360, 1361, 1362, 1363, 1364, 1365, 1366, 1367, 1368, 1369, 1370, 1371, 1372, 1373, 1374, 1375, 1376, 1377, 1378, 1379, 1380, 1381, 1382, 1383, 1384, 1385, 1386, 1387, 1388, 1389, 1390, 1391, 1392, 1393, 1394, 1395, 1396, 1397, 1398, 1399, 1400, 1401, 1402, 1403, 1404, 1405, 1406, 1407, 1408] (by decide +kernel) (by decide +kernel)
set_option maxRecDepth 20000 in
theorem gL_law_X10_seed : GoodIn wsL_law (wsV RL 113 RX10 yX10_seed wsX10_seed) := goodIn_app (goodIn_of _ (by decide +kernel)) ggL_law_X10_seed
set_option maxRecDepth 20000 in
theorem ggL_law_X9_run : GoodIn wsL_law wsX9_run := goodIn_r _ [941, 16, 39, 440, 441, 442, 15, 443, 56, 942, 943, 944, 38, 945, 899, 946, 947, 948, 900, 901, 902, 903, 559, 560, 561, 61, 62, 904, 563, 564, 565, 566, 567, 568, 905, 551, 552, 553, 67, 554, 555, 556, 557, 69, 68, 66, 70, 558, 562, 1343, 1344, 1345, 1346, 1347, 1348, 1349, 1350, 1351, 1352, 1353, 1354, 1409, 1410, 1411, 1412, 1413, 1414, 1415, 1416, 1417, 1418, 1419, 1420, 1421, 1422] (by decide +kernel) (by decide +kernel)
set_option maxRecDepth 20000 in
theorem gL_law_X9_run : GoodIn wsL_law (wsV RL 114 RX9 yX9_run wsX9_run) := goodIn_app (goodIn_of _ (by decide +kernel)) ggL_law_X9_run
set_option maxRecDepth 20000 in
theorem ggL_law_X10_run : GoodIn wsL_law wsX10_run := goodIn_r _ [952, 338, 140, 953, 454, 455, 456, 5, 457, 135, 180, 181, 182, 573, 574, 575, 576, 340, 577, 578, 579, 580, 138, 581, 582, 583, 584, 458, 459, 460, 461, 462, 463, 464, 465, 137, 585, 586, 587, 1355, 1356, 1357, 1358, 1359, 1360, 1361, 1362, 1363, 1364, 1365, 1366, 1367, 1368, 1369, 1370, 1371, 1372, 1373, 1374, 1375, 1376, 1377, 1378, 1379, 1380, 1381, 1382, 1383, 1384, 1385, 1386, 1387, 1388, 1389, 1390, 1391, 1392, 1393, 1394, 1395, 1396, 1397, 1398, 1399, 1400, 1401, 1402, 1403, 1404, 1405, 1406, 1407, 1408] (by decide +kernel) (by decide +kernel)
set_option maxRecDepth 20000 in
theorem gL_law_X10_run : GoodIn wsL_law (wsV RL 117 RX10 yX10_run wsX10_run) := goodIn_app (goodIn_of _ (by decide +kernel)) ggL_law_X10_run
set_option maxRecDepth 20000 in
theorem ggL_law_X9_guards : GoodIn wsL_law wsX9_guards := goodIn_r _ [957, 16, 833, 27, 440, 441, 442, 15, 443, 56, 635, 636, 2, 637, 592, 593, 594, 595, 596, 597, 598, 599, 60, 600, 551, 552, 553, 67, 554, 555, 556, 557, 69, 68, 66, 70, 558, 559, 560, 561, 61, 62, 562, 563, 564, 565, 566, 567, 568, 601, 602, 603, 26, 604, 89, 605, 606, 607, 608, 73, 74, 75, 958, 959, 960, 961, 962, 963, 964, 965, 966, 967, 968, 969, 970, 971, 972, 973, 974, 975, 282, 283, 284, 676, 1343, 1344, 1345, 1346, 1347, 1348, 1349, 1350, 1351, 1352, 1353, 1354, 1409, 1410, 1411, 1412, 1413, 1414, 1415, 1416, 1417, 1418, 1419, 1420, 1421, 1422, 1429] (by decide +kernel) (by decide +kernel)
set_option maxRecDepth 20000 in
theorem gL_law_X9_guards : GoodIn wsL_law (wsV RL 118 RX9 yX9_guards wsX9_guards) := goodIn_app (goodIn_of _ (by decide +kernel)) ggL_law_X9_guards
set_option maxRecDepth 20000 in
theorem ggL_law_X10_guards : GoodIn wsL_law wsX10_guards := goodIn_r _ [979, 135, 153, 152, 454, 455, 456, 5, 457, 180, 181, 182, 653, 654, 655, 619, 620, 621, 622, 338, 573, 574, 575, 576, 340, 577, 578, 579, 580, 138, 581, 582, 583, 584, 458, 459, 460, 461, 462, 463, 464, 465, 137, 585, 586, 587, 627, 628, 629, 630, 515, 516, 517, 518, 980, 981, 982, 983, 1355, 1356, 1357, 1358, 1359, 1360, 1361, 1362, 1363, 1364, 1365, 1366, 1367, 1368, 1369, 1370, 1371, 1372, 1373, 1374, 1375, 1376, 1377, 1378, 1379, 1380, 1381, 1382, 1383, 1384, 1385, 1386, 1387, 1388, 1389, 1390, 1391, 1392, 1393, 1394, 1395, 1396, 1397, 1398, 1399, 1400, 1401, 1402, 1403, 1404, 1405, 1406, 1407, 1408] (by decide +kernel) (by decide +kernel)
set_option maxRecDepth 20000 in
theorem gL_law_X10_guards : GoodIn wsL_law (wsV RL 121 RX10 yX10_guards wsX10_guards) := goodIn_app (goodIn_of _ (by decide +kernel)) ggL_law_X10_guards
set_option maxRecDepth 20000 in
theorem ggL_law_X9_prove : GoodIn wsL_law wsX9_prove := goodIn_r _ [987, 16, 39, 889, 43, 189, 440, 441, 442, 15, 443, 56, 890, 891, 892, 38, 893, 104, 894, 895, 73, 74, 75, 896, 897, 898, 899, 900, 901, 902, 903, 559, 560, 561, 61, 62, 904, 563, 564, 565, 566, 567, 568, 905, 551, 552, 553, 67, 554, 555, 556, 557, 69, 68, 66, 70, 558, 562, 988, 989, 990, 42, 991, 992, 993, 282, 283, 284, 111, 110, 994, 923, 924, 925, 995, 996, 997, 998, 999, 1000, 1001, 1002, 278, 279, 280, 60, 281, 285, 286, 287, 1003, 1343, 1344, 1345, 1346, 1347, 1348, 1349, 1350, 1351, 1352, 1353, 1354, 1435, 1436, 1437, 1438, 1409, 1410, 1411, 1412, 1413, 1414, 1415, 1416, 1417, 1418, 1419, 1420, 1421, 1422] (by decide +kernel) (by decide +kernel)
set_option maxRecDepth 20000 in
theorem gL_law_X9_prove : GoodIn wsL_law (wsV RL 122 RX9 yX9_prove wsX9_prove) := goodIn_app (goodIn_of _ (by decide +kernel)) ggL_law_X9_prove
set_option maxRecDepth 20000 in
theorem ggL_law_X10_prove : GoodIn wsL_law wsX10_prove := goodIn_r _ [1007, 150, 154, 419, 454, 455, 456, 5, 457, 135, 180, 181, 182, 910, 911, 912, 913, 515, 516, 517, 518, 619, 620, 621, 622, 338, 573, 574, 575, 576, 340, 577, 578, 579, 580, 138, 581, 582, 583, 584, 458, 459, 460, 461, 462, 463, 464, 465, 137, 585, 586, 587, 627, 628, 629, 630, 914, 915, 916, 917, 1008, 1009, 1010, 1011, 1012, 1013, 1014, 1015, 1355, 1356, 1357, 1358, 1359, 1360, 1361, 1362, 1363, 1364, 1365, 1366, 1367, 1368, 1369, 1370, 1371, 1372, 1373, 1374, 1375, 1376, 1377, 1378, 1379, 1380, 1381, 1382, 1383, 1384, 1385, 1386, 1387, 1388, 1389, 1390, 1391, 1392, 1393, 1394, 1395, 1396, 1397, 1398, 1399, 1400, 1401, 1402, 1403, 1404, 1405, 1406, 1407, 1408] (by decide +kernel) (by decide +kernel)
set_option maxRecDepth 20000 in
theorem gL_law_X10_prove : GoodIn wsL_law (wsV RL 125 RX10 yX10_prove wsX10_prove) := goodIn_app (goodIn_of _ (by decide +kernel)) ggL_law_X10_prove
set_option maxRecDepth 20000 in
theorem ggL_law_X9_row : GoodIn wsL_law wsX9_row := goodIn_r _ [1019, 43, 1020, 1021, 1022, 1023, 42, 1024, 111, 1343, 1344, 1345, 1346, 1347, 1348, 1349, 1350, 1351, 1352, 1353, 1354, 1437, 1438] (by decide +kernel) (by decide +kernel)
set_option maxRecDepth 20000 in
theorem gL_law_X9_row : GoodIn wsL_law (wsV RL 126 RX9 yX9_row wsX9_row) := goodIn_app (goodIn_of _ (by decide +kernel)) ggL_law_X9_row
set_option maxRecDepth 20000 in
theorem ggL_law_X10_row : GoodIn wsL_law wsX10_row := goodIn_r _ [1028, 154, 1029, 1030, 1031, 5, 1032, 419, 180, 181, 182, 1355, 1356, 1357, 1358, 1359, 1360, 1361, 1362, 1363, 1364, 1365, 1366, 1367, 1368, 1369, 1370, 1371, 1372, 1373, 1374, 1375, 1376, 1377, 1378, 1379, 1380, 1381, 1382, 1383, 1384, 1385, 1386, 1387, 1388, 1389, 1390, 1391, 1392, 1393, 1394, 1395, 1396, 1397, 1398, 1399, 1400, 1401, 1402, 1403, 1404, 1405, 1406, 1407, 1408] (by decide +kernel) (by decide +kernel)
set_option maxRecDepth 20000 in
theorem gL_law_X10_row : GoodIn wsL_law (wsV RL 129 RX10 yX10_row wsX10_row) := goodIn_app (goodIn_of _ (by decide +kernel)) ggL_law_X10_row
set_option maxRecDepth 20000 in
theorem ggL_law_X9_alterRow : GoodIn wsL_law wsX9_alterRow := goodIn_r _ [1036, 43, 1020, 1021, 1022, 1023, 42, 1024, 111, 1343, 1344, 1345, 1346, 1347, 1348, 1349, 1350, 1351, 1352, 1353, 1354, 1437, 1438] (by decide +kernel) (by decide +kernel)
set_option maxRecDepth 20000 in
theorem gL_law_X9_alterRow : GoodIn wsL_law (wsV RL 130 RX9 yX9_alterRow wsX9_alterRow) := goodIn_app (goodIn_of _ (by decide +kernel)) ggL_law_X9_alterRow
set_option maxRecDepth 20000 in
theorem ggL_law_X10_alterRow : GoodIn wsL_law wsX10_alterRow := goodIn_r _ [1040, 154, 1029, 1030, 1031, 5, 1032, 419, 180, 181, 182, 1355, 1356, 1357, 1358, 1359, 1360, 1361, 1362, 1363, 1364, 1365, 1366, 1367, 1368, 1369, 1370, 1371, 1372, 1373, 1374, 1375, 1376, 1377, 1378, 1379, 1380, 1381, 1382, 1383, 1384, 1385, 1386, 1387, 1388, 1389, 1390, 1391, 1392, 1393, 1394, 1395, 1396, 1397, 1398, 1399, 1400, 1401, 1402, 1403, 1404, 1405, 1406, 1407, 1408] (by decide +kernel) (by decide +kernel)
set_option maxRecDepth 20000 in
theorem gL_law_X10_alterRow : GoodIn wsL_law (wsV RL 133 RX10 yX10_alterRow wsX10_alterRow) := goodIn_app (goodIn_of _ (by decide +kernel)) ggL_law_X10_alterRow
set_option maxRecDepth 20000 in
theorem ggL_law_X9_judge : GoodIn wsL_law wsX9_judge := goodIn_r _ [1044, 16, 43, 440, 441, 442, 15, 443, 56, 1045, 1046, 1047, 42, 1048, 111, 110, 999, 1000, 1001, 1002, 278, 279, 280, 60, 61, 281, 282, 283, 284, 62, 285, 286, 287, 1003, 551, 552, 553, 67, 554, 555, 556, 557, 69, 68, 66, 70, 558, 559, 560, 561, 562, 563, 564, 565, 566, 567, 568, 1343, 1344, 1345, 1346, 1347, 1348, 1349, 1350, 1351, 1352, 1353, 1354, 1409, 1410, 1411, 1412, 1413, 1414, 1415, 1416, 1417, 1418, 1419, 1420, 1421, 1422, 1437, 1438] (by decide +kernel) (by decide +kernel)
set_option maxRecDepth 20000 in
theorem gL_law_X9_judge : GoodIn wsL_law (wsV RL 134 RX9 yX9_judge wsX9_judge) := goodIn_app (goodIn_of _ (by decide +kernel)) ggL_law_X9_judge
set_option maxRecDepth 20000 in
theorem ggL_law_X10_judge : GoodIn wsL_law wsX10_judge := goodIn_r _ [1052, 419, 154, 454, 455, 456, 5, 457, 135, 180, 181, 182, 1008, 1009, 1010, 1011, 1012, 1013, 1014, 1015, 338, 458, 459, 460, 461, 462, 463, 464, 465, 137, 573, 574, 575, 576, 340, 577, 578, 579, 580, 138, 581, 582, 583, 584, 585, 586, 587, 1355, 1356, 1357, 1358, 1359, 1360, 1361, 1362, 1363, 1364, 1365, 1366, 1367, 1368, 1369, 1370, 1371, 1372, 1373, 1374, 1375, 1376, 1377, 1378, 1379, 1380, 1381, 1382, 1383, 1384, 1385, 1386, 1387, 1388, 1389, 1390, 1391, 1392, 1393, 1394, 1395, 1396, 1397, 1398, 1399, 1400, 1401, 1402, 1403, 1404, 1405, 1406, 1407, 1408] (by decide +kernel) (by decide +kernel)
set_option maxRecDepth 20000 in
theorem gL_law_X10_judge : GoodIn wsL_law (wsV RL 137 RX10 yX10_judge wsX10_judge) := goodIn_app (goodIn_of _ (by decide +kernel)) ggL_law_X10_judge
set_option maxRecDepth 20000 in
theorem ggL_law_X9_chair : GoodIn wsL_law wsX9_chair := goodIn_r _ [1056, 16, 833, 27, 635, 636, 2, 637, 592, 593, 594, 595, 596, 597, 598, 15, 599, 60, 600, 551, 552, 553, 67, 554, 555, 556, 557, 69, 68, 66, 70, 558, 559, 560, 561, 61, 62, 562, 563, 564, 565, 566, 567, 568, 601, 602, 603, 26, 604, 89, 605, 606, 607, 608, 73, 74, 75, 609, 503, 504, 505, 56, 643, 644, 645, 646, 647, 286, 283, 287, 642, 611, 612, 613, 614, 1343, 1344, 1345, 1346, 1347, 1348, 1349, 1350, 1351, 1352, 1353, 1354, 1409, 1410, 1411, 1412, 1413, 1414, 1415, 1416, 1417, 1418, 1419, 1420, 1421, 1422, 1429] (by decide +kernel) (by decide +kernel)
set_option maxRecDepth 20000 in
theorem gL_law_X9_chair : GoodIn wsL_law (wsV RL 138 RX9 yX9_chair wsX9_chair) := goodIn_app (goodIn_of _ (by decide +kernel)) ggL_law_X9_chair
set_option maxRecDepth 20000 in
theorem ggL_law_X10_chair : GoodIn wsL_law wsX10_chair := goodIn_r _ [1060, 135, 653, 654, 5, 655, 180, 181, 182, 619, 620, 621, 622, 338, 573, 574, 575, 576, 340, 577, 578, 579, 580, 138, 581, 582, 583, 584, 458, 459, 460, 461, 462, 463, 464, 465, 137, 585, 586, 587, 515, 516, 517, 518, 656, 657, 658, 659, 652, 623, 624, 625, 626, 627, 628, 629, 630, 1355, 1356, 1357, 1358, 1359, 1360, 1361, 1362, 1363, 1364, 1365, 1366, 1367, 1368, 1369, 1370, 1371, 1372, 1373, 1374, 1375, 1376, 1377, 1378, 1379, 1380, 1381, 1382, 1383, 1384, 1385, 1386, 1387, 1388, 1389, 1390, 1391, 1392, 1393, 1394, 1395, 1396, 1397, 1398, 1399, 1400, 1401, 1402, 1403, 1404, 1405, 1406, 1407, 1408] (by decide +kernel) (by decide +kernel)
set_option maxRecDepth 20000 in
theorem gL_law_X10_chair : GoodIn wsL_law (wsV RL 141 RX10 yX10_chair wsX10_chair) := goodIn_app (goodIn_of _ (by decide +kernel)) ggL_law_X10_chair
set_option maxRecDepth 20000 in
theorem ggL_law_X9_meet : GoodIn wsL_law wsX9_meet := goodIn_r _ [1064, 16, 27, 498, 499, 500, 15, 501, 502, 503, 504, 505, 56, 635, 636, 2, 637, 592, 593, 594, 595, 596, 597, 598, 599, 60, 600, 551, 552, 553, 67, 554, 555, 556, 557, 69, 68, 66, 70, 558, 559, 560, 561, 61, 62, 562, 563, 564, 565, 566, 567, 568, 601, 602, 603, 26, 604, 89, 605, 606, 607, 608, 73, 74, 75, 609, 676, 610, 611, 612, 613, 614, 822, 823, 824, 1343, 1344, 1345, 1346, 1347, 1348, 1349, 1350, 1351, 1352, 1353, 1354, 1409, 1410, 1411, 1412, 1413, 1414, 1415, 1416, 1417, 1418, 1419, 1420, 1421, 1422, 1429] (by decide +kernel) (by decide +kernel)
set_option maxRecDepth 20000 in
theorem gL_law_X9_meet : GoodIn wsL_law (wsV RL 142 RX9 yX9_meet wsX9_meet) := goodIn_app (goodIn_of _ (by decide +kernel)) ggL_law_X9_meet
set_option maxRecDepth 20000 in
theorem ggL_law_X10_meet : GoodIn wsL_law wsX10_meet := goodIn_r _ [1068, 515, 516, 517, 5, 518, 135, 180, 181, 182, 653, 654, 655, 619, 620, 621, 622, 338, 573, 574, 575, 576, 340, 577, 578, 579, 580, 138, 581, 582, 583, 584, 458, 459, 460, 461, 462, 463, 464, 465, 137, 585, 586, 587, 623, 624, 625, 626, 627, 628, 629, 630, 1355, 1356, 1357, 1358, 1359, 1360, 1361, 1362, 1363, 1364, 1365, 1366, 1367, 1368, 1369, 1370, 1371, 1372, 1373, 1374, 1375, 1376, 1377, 1378, 1379, 1380, 1381, 1382, 1383, 1384, 1385, 1386, 1387, 1388, 1389, 1390, 1391, 1392, 1393, 1394, 1395, 1396, 1397, 1398, 1399, 1400, 1401, 1402, 1403, 1404, 1405, 1406, 1407, 1408] (by decide +kernel) (by decide +kernel)
set_option maxRecDepth 20000 in
theorem gL_law_X10_meet : GoodIn wsL_law (wsV RL 145 RX10 yX10_meet wsX10_meet) := goodIn_app (goodIn_of _ (by decide +kernel)) ggL_law_X10_meet
set_option maxRecDepth 20000 in
theorem ggL_law_X9_tell : GoodIn wsL_law wsX9_tell := goodIn_r _ [1072, 16, 39, 635, 636, 2, 637, 609, 503, 504, 15, 505, 56, 1073, 1074, 1075, 38, 1076, 894, 105, 1077, 891, 892, 893, 104, 895, 73, 74, 75, 896, 897, 898, 899, 900, 901, 902, 903, 559, 560, 561, 61, 62, 904, 563, 564, 565, 566, 567, 568, 905, 551, 552, 553, 67, 554, 555, 556, 557, 69, 68, 66, 70, 558, 562, 1078, 923, 924, 925, 676, 1079, 1080, 1081, 1082, 822, 823, 824, 1343, 1344, 1345, 1346, 1347, 1348, 1349, 1350, 1351, 1352, 1353, 1354, 1409, 1410, 1411, 1412, 1413, 1414, 1415, 1416, 1417, 1418, 1419, 1420, 1421, 1422, 1435, 1436] (by decide +kernel) (by decide +kernel)
set_option maxRecDepth 20000 in
theorem gL_law_X9_tell : GoodIn wsL_law (wsV RL 146 RX9 yX9_tell wsX9_tell) := goodIn_app (goodIn_of _ (by decide +kernel)) ggL_law_X9_tell
set_option maxRecDepth 20000 in
theorem ggL_law_X10_tell : GoodIn wsL_law wsX10_tell := goodIn_r _ [1086, 135, 155, 150, 180, 181, 5, 182, 653, 654, 655, 910, 911, 912, 913, 515, 516, 517, 518, 619, 620, 621, 622, 338, 573, 574, 575, 576, 340, 577, 578, 579, 580, 138, 581, 582, 583, 584, 458, 459, 460, 461, 462, 463, 464, 465, 137, 585, 586, 587, 627, 628, 629, 630, 1355, 1356, 1357, 1358, 1359, 1360, 1361, 1362, 1363, 1364, 1365, 1366, 1367, 1368, 1369, 1370, 1371, 1372, 1373, 1374, 1375, 1376, 1377, 1378, 1379, 1380, 1381, 1382, 1383, 1384, 1385, 1386, 1387, 1388, 1389, 1390, 1391, 1392, 1393, 1394, 1395, 1396, 1397, 1398, 1399, 1400, 1401, 1402, 1403, 1404, 1405, 1406, 1407, 1408] (by decide +kernel) (by decide +kernel)
set_option maxRecDepth 20000 in
theorem gL_law_X10_tell : GoodIn wsL_law (wsV RL 149 RX10 yX10_tell wsX10_tell) := goodIn_app (goodIn_of _ (by decide +kernel)) ggL_law_X10_tell
