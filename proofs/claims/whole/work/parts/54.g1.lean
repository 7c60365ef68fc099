set_option maxRecDepth 20000 in
theorem ggL_law_X8_away : GoodIn wsL_law wsX8_away := goodIn_r _ [770, 77, 62, 686, 687, 688, 5, 689, 429, 67, 471, 472, 473, 474, 475, 476, 477, 478, 64, 65, 479, 480, 481, 482, 483, 484, 485, 486, 61, 60, 430, 59, 487, 488, 489, 490, 491, 492, 493, 494, 495, 496, 497, 498, 499, 1212, 1213, 1214, 1215, 1216, 1217, 1218, 1219, 1220, 1221, 1222, 1223, 1224, 1225, 1226, 1227, 1228, 1229, 1230, 1231, 1232, 1233, 1234, 1235, 1236, 1237, 1238, 1239, 1240] (by decide +kernel) (by decide +kernel)
set_option maxRecDepth 20000 in
theorem gL_law_X8_away : GoodIn wsL_law (wsV RL 96 RX8 yX8_away wsX8_away) := goodIn_app (goodIn_of _ (by decide +kernel)) ggL_law_X8_away
set_option maxRecDepth 20000 in
theorem ggL_law_X7_pairs : GoodIn wsL_law wsX7_pairs := goodIn_r _ [774, 15, 29, 551, 311, 312, 14, 313, 124, 82, 83, 84, 2, 85, 31, 86, 87, 88, 89, 90, 91, 775, 776, 777, 28, 778, 779, 780, 53, 781, 324, 325, 326, 125, 327, 328, 782, 783, 784, 785, 567, 568, 569, 39, 337, 338, 339, 340, 40, 122, 35, 36, 329, 330, 331, 332, 123, 38, 341, 342, 343, 344, 37, 121, 345, 346, 347, 348, 349, 350, 351, 352, 353, 354, 355, 356, 357, 786, 787, 788, 789, 790, 791, 208, 209, 210, 792, 212, 213, 793, 794, 795, 796, 797, 798, 799, 800, 801, 802, 803, 804, 805, 806, 1204, 1205, 1206, 1207, 1208, 1209, 1210, 1211, 1241, 1242, 1243, 1244, 1245, 1246, 1247, 1248, 1249, 1250, 1251, 1252, 1257, 1258] (by decide +kernel) (by decide +kernel)
set_option maxRecDepth 20000 in
theorem gL_law_X7_pairs : GoodIn wsL_law (wsV RL 97 RX7 yX7_pairs wsX7_pairs) := goodIn_app (goodIn_of _ (by decide +kernel)) ggL_law_X7_pairs
set_option maxRecDepth 20000 in
theorem ggL_law_X8_pairs : GoodIn wsL_law wsX8_pairs := goodIn_r _ [810, 429, 74, 109, 110, 111, 5, 112, 58, 811, 812, 813, 814, 77, 815, 816, 817, 818, 67, 62, 471, 472, 473, 474, 475, 476, 477, 478, 64, 65, 479, 480, 481, 482, 483, 484, 485, 486, 61, 60, 430, 59, 487, 488, 489, 490, 491, 492, 493, 494, 495, 496, 497, 498, 499, 819, 820, 821, 822, 823, 824, 825, 826, 1212, 1213, 1214, 1215, 1216, 1217, 1218, 1219, 1220, 1221, 1222, 1223, 1224, 1225, 1226, 1227, 1228, 1229, 1230, 1231, 1232, 1233, 1234, 1235, 1236, 1237, 1238, 1239, 1240] (by decide +kernel) (by decide +kernel)
set_option maxRecDepth 20000 in
theorem gL_law_X8_pairs : GoodIn wsL_law (wsV RL 100 RX8 yX8_pairs wsX8_pairs) := goodIn_app (goodIn_of _ (by decide +kernel)) ggL_law_X8_pairs
set_option maxRecDepth 20000 in
theorem ggL_law_X7_meant : GoodIn wsL_law wsX7_meant := goodIn_r _ [830, 15, 551, 311, 312, 14, 313, 124, 82, 83, 84, 2, 85, 31, 86, 87, 88, 89, 90, 91, 666, 667, 668, 831, 832, 833, 834, 122, 835, 836, 837, 838, 303, 304, 305, 306, 37, 839, 557, 558, 559, 40, 365, 348, 349, 350, 351, 352, 353, 840, 1204, 1205, 1206, 1207, 1208, 1209, 1210, 1211, 1241, 1242, 1243, 1244, 1245, 1246, 1247, 1248, 1249, 1250, 1251, 1252] (by decide +kernel) (by decide +kernel)
set_option maxRecDepth 20000 in
theorem gL_law_X7_meant : GoodIn wsL_law (wsV RL 101 RX7 yX7_meant wsX7_meant) := goodIn_app (goodIn_of _ (by decide +kernel)) ggL_law_X7_meant
set_option maxRecDepth 20000 in
theorem ggL_law_X8_meant : GoodIn wsL_law wsX8_meant := goodIn_r _ [844, 455, 456, 457, 5, 458, 429, 420, 421, 422, 109, 110, 111, 112, 58, 845, 846, 847, 848, 77, 849, 850, 851, 852, 61, 65, 491, 492, 493, 1212, 1213, 1214, 1215, 1216, 1217, 1218, 1219, 1220, 1221, 1222, 1223, 1224, 1225, 1226, 1227, 1228, 1229, 1230, 1231, 1232, 1233, 1234, 1235, 1236, 1237, 1238, 1239, 1240] (by decide +kernel) (by decide +kernel)
set_option maxRecDepth 20000 in
theorem gL_law_X8_meant : GoodIn wsL_law (wsV RL 104 RX8 yX8_meant wsX8_meant) := goodIn_app (goodIn_of _ (by decide +kernel)) ggL_law_X8_meant
set_option maxRecDepth 20000 in
theorem ggL_law_X7_loses : GoodIn wsL_law wsX7_loses := goodIn_r _ [856, 15, 857, 566, 567, 568, 14, 569, 39, 87, 2, 88, 337, 338, 339, 340, 40, 122, 35, 36, 329, 330, 331, 332, 123, 38, 327, 328, 341, 342, 343, 344, 37, 121, 345, 346, 347, 348, 349, 350, 351, 352, 353, 354, 355, 356, 357, 831, 832, 833, 834, 835, 836, 837, 838, 303, 304, 305, 306, 839, 557, 558, 559, 365, 1204, 1205, 1206, 1207, 1208, 1209, 1210, 1211, 1241, 1242, 1243, 1244, 1245, 1246, 1247, 1248, 1249, 1250, 1251, 1252] (by decide +kernel) (by decide +kernel)
set_option maxRecDepth 20000 in
theorem gL_law_X7_loses : GoodIn wsL_law (wsV RL 105 RX7 yX7_loses wsX7_loses) := goodIn_app (goodIn_of _ (by decide +kernel)) ggL_law_X7_loses
set_option maxRecDepth 20000 in
theorem ggL_law_X8_loses : GoodIn wsL_law wsX8_loses := goodIn_r _ [861, 429, 471, 472, 473, 5, 474, 475, 476, 477, 478, 64, 65, 479, 480, 481, 482, 77, 62, 483, 484, 485, 486, 61, 60, 430, 59, 487, 488, 489, 490, 491, 492, 493, 494, 495, 496, 497, 498, 499, 845, 846, 847, 848, 849, 850, 851, 852, 1212, 1213, 1214, 1215, 1216, 1217, 1218, 1219, 1220, 1221, 1222, 1223, 1224, 1225, 1226, 1227, 1228, 1229, 1230, 1231, 1232, 1233, 1234, 1235, 1236, 1237, 1238, 1239, 1240] (by decide +kernel) (by decide +kernel)
set_option maxRecDepth 20000 in
theorem gL_law_X8_loses : GoodIn wsL_law (wsV RL 108 RX8 yX8_loses wsX8_loses) := goodIn_app (goodIn_of _ (by decide +kernel)) ggL_law_X8_loses
set_option maxRecDepth 20000 in
theorem ggL_law_X7_alike : GoodIn wsL_law wsX7_alike := goodIn_r _ [865, 15, 866, 867, 868, 869, 870, 871, 872, 873, 874, 717, 718, 14, 719, 720, 540, 541, 542, 123, 38, 327, 2, 328, 87, 88, 875, 535, 536, 537, 35, 36, 341, 342, 343, 344, 37, 121, 876, 877, 878, 879, 880, 881, 882, 883, 884, 885, 208, 209, 210, 886, 887, 888, 889, 890, 891, 82, 83, 84, 85, 31, 86, 89, 90, 91, 1204, 1205, 1206, 1207, 1208, 1209, 1210, 1211, 1241, 1242, 1243, 1244, 1245, 1246, 1247, 1248, 1249, 1250, 1251, 1252] (by decide +kernel) (by decide +kernel)
set_option maxRecDepth 20000 in
theorem gL_law_X7_alike : GoodIn wsL_law (wsV RL 109 RX7 yX7_alike wsX7_alike) := goodIn_app (goodIn_of _ (by decide +kernel)) ggL_law_X7_alike
set_option maxRecDepth 20000 in
theorem ggL_law_X8_alike : GoodIn wsL_law wsX8_alike := goodIn_r _ [895, 420, 421, 5, 422, 109, 110, 111, 112, 58, 896, 897, 898, 899, 77, 62, 483, 484, 485, 486, 61, 60, 430, 59, 487, 488, 489, 490, 900, 901, 902, 903, 479, 480, 481, 482, 494, 495, 496, 497, 498, 499, 491, 492, 493, 1212, 1213, 1214, 1215, 1216, 1217, 1218, 1219, 1220, 1221, 1222, 1223, 1224, 1225, 1226, 1227, 1228, 1229, 1230, 1231, 1232, 1233, 1234, 1235, 1236, 1237, 1238, 1239, 1240] (by decide +kernel) (by decide +kernel)
set_option maxRecDepth 20000 in
theorem gL_law_X8_alike : GoodIn wsL_law (wsV RL 112 RX8 yX8_alike wsX8_alike) := goodIn_app (goodIn_of _ (by decide +kernel)) ggL_law_X8_alike
set_option maxRecDepth 20000 in
theorem ggL_law_X7_tells : GoodIn wsL_law wsX7_tells := goodIn_r _ [907, 15, 908, 909, 868, 910, 911, 912, 913, 870, 914, 915, 209, 916, 874, 717, 718, 14, 719, 720, 540, 541, 542, 123, 38, 327, 2, 328, 87, 88, 875, 535, 536, 537, 35, 36, 341, 342, 343, 344, 37, 121, 1204, 1205, 1206, 1207, 1208, 1209, 1210, 1211, 1241, 1242, 1243, 1244, 1245, 1246, 1247, 1248, 1249, 1250, 1251, 1252] (by decide +kernel) (by decide +kernel)
set_option maxRecDepth 20000 in
theorem gL_law_X7_tells : GoodIn wsL_law (wsV RL 113 RX7 yX7_tells wsX7_tells) := goodIn_app (goodIn_of _ (by decide +kernel)) ggL_law_X7_tells
set_option maxRecDepth 20000 in
theorem ggL_law_X8_tells : GoodIn wsL_law wsX8_tells := goodIn_r _ [920, 921, 922, 923, 5, 924, 479, 480, 481, 482, 77, 62, 483, 484, 485, 486, 61, 60, 430, 59, 487, 488, 489, 490, 491, 492, 493, 1212, 1213, 1214, 1215, 1216, 1217, 1218, 1219, 1220, 1221, 1222, 1223, 1224, 1225, 1226, 1227, 1228, 1229, 1230, 1231, 1232, 1233, 1234, 1235, 1236, 1237, 1238, 1239, 1240] (by decide +kernel) (by decide +kernel)
set_option maxRecDepth 20000 in
theorem gL_law_X8_tells : GoodIn wsL_law (wsV RL 116 RX8 yX8_tells wsX8_tells) := goodIn_app (goodIn_of _ (by decide +kernel)) ggL_law_X8_tells
set_option maxRecDepth 20000 in
theorem ggL_law_X7_sees : GoodIn wsL_law wsX7_sees := goodIn_r _ [928, 15, 929, 930, 868, 931, 879, 880, 881, 870, 871, 872, 873, 874, 717, 718, 14, 719, 720, 540, 541, 542, 123, 38, 327, 2, 328, 87, 88, 875, 535, 536, 537, 35, 36, 341, 342, 343, 344, 37, 121, 1204, 1205, 1206, 1207, 1208, 1209, 1210, 1211, 1241, 1242, 1243, 1244, 1245, 1246, 1247, 1248, 1249, 1250, 1251, 1252] (by decide +kernel) (by decide +kernel)
set_option maxRecDepth 20000 in
theorem gL_law_X7_sees : GoodIn wsL_law (wsV RL 117 RX7 yX7_sees wsX7_sees) := goodIn_app (goodIn_of _ (by decide +kernel)) ggL_law_X7_sees
set_option maxRecDepth 20000 in
theorem ggL_law_X8_sees : GoodIn wsL_law wsX8_sees := goodIn_r _ [935, 491, 492, 5, 493, 936, 937, 938, 939, 77, 62, 483, 484, 485, 486, 61, 60, 430, 59, 487, 488, 489, 490, 479, 480, 481, 482, 1212, 1213, 1214, 1215, 1216, 1217, 1218, 1219, 1220, 1221, 1222, 1223, 1224, 1225, 1226, 1227, 1228, 1229, 1230, 1231, 1232, 1233, 1234, 1235, 1236, 1237, 1238, 1239, 1240] (by decide +kernel) (by decide +kernel)
set_option maxRecDepth 20000 in
theorem gL_law_X8_sees : GoodIn wsL_law (wsV RL 120 RX8 yX8_sees wsX8_sees) := goodIn_app (goodIn_of _ (by decide +kernel)) ggL_law_X8_sees
set_option maxRecDepth 20000 in
theorem ggL_law_X7_order : GoodIn wsL_law wsX7_order := goodIn_r _ [943, 16, 15, 666, 667, 2, 668, 82, 83, 84, 85, 31, 86, 87, 88, 89, 90, 91, 117, 118, 119, 14, 120, 121, 122, 35, 36, 37, 38, 123, 124, 39, 40, 41, 125, 126, 127, 944, 945, 946, 947, 707, 319, 320, 321, 322, 311, 312, 313, 323, 324, 325, 326, 327, 328, 329, 330, 331, 332, 948, 334, 335, 336, 337, 338, 339, 340, 341, 342, 343, 344, 345, 346, 347, 348, 349, 350, 351, 352, 353, 354, 355, 356, 357, 358, 359, 360, 361, 362, 363, 364, 365, 1204, 1205, 1206, 1207, 1208, 1209, 1210, 1211, 1241, 1242, 1243, 1244, 1245, 1246, 1247, 1248, 1249, 1250, 1251, 1252] (by decide +kernel) (by decide +kernel)
set_option maxRecDepth 20000 in
theorem gL_law_X7_order : GoodIn wsL_law (wsV RL 121 RX7 yX7_order wsX7_order) := goodIn_app (goodIn_of _ (by decide +kernel)) ggL_law_X7_order
set_option maxRecDepth 20000 in
theorem ggL_law_X8_order : GoodIn wsL_law wsX8_order := goodIn_r _ [952, 420, 421, 5, 422, 109, 110, 111, 112, 58, 654, 655, 656, 657, 423, 424, 425, 426, 427, 428, 59, 60, 61, 62, 63, 64, 65, 66, 67, 77, 429, 430, 431, 432, 433, 434, 72, 435, 436, 437, 438, 953, 954, 955, 956, 459, 460, 461, 462, 463, 464, 465, 466, 467, 468, 469, 470, 471, 472, 473, 474, 475, 476, 477, 478, 479, 480, 481, 482, 483, 484, 485, 486, 487, 488, 489, 490, 491, 492, 493, 494, 495, 496, 497, 498, 499, 500, 501, 502, 503, 504, 505, 506, 507, 658, 659, 660, 661, 1212, 1213, 1214, 1215, 1216, 1217, 1218, 1219, 1220, 1221, 1222, 1223, 1224, 1225, 1226, 1227, 1228, 1229, 1230, 1231, 1232, 1233, 1234, 1235, 1236, 1237, 1238, 1239, 1240] (by decide +kernel) (by decide +kernel)
set_option maxRecDepth 20000 in
theorem gL_law_X8_order : GoodIn wsL_law (wsV RL 124 RX8 yX8_order wsX8_order) := goodIn_app (goodIn_of _ (by decide +kernel)) ggL_law_X8_order
set_option maxRecDepth 20000 in
theorem ggL_law_X7_lies : GoodIn wsL_law wsX7_lies := goodIn_r _ [960, 15, 961, 716, 717, 718, 14, 719, 720, 540, 541, 542, 123, 38, 327, 2, 328, 87, 88, 534, 535, 536, 537, 35, 36, 341, 342, 343, 344, 37, 121, 533, 304, 305, 306, 347, 348, 349, 350, 351, 352, 353, 1204, 1205, 1206, 1207, 1208, 1209, 1210, 1211, 1241, 1242, 1243, 1244, 1245, 1246, 1247, 1248, 1249, 1250, 1251, 1252] (by decide +kernel) (by decide +kernel)
set_option maxRecDepth 20000 in
theorem gL_law_X7_lies : GoodIn wsL_law (wsV RL 125 RX7 yX7_lies wsX7_lies) := goodIn_app (goodIn_of _ (by decide +kernel)) ggL_law_X7_lies
set_option maxRecDepth 20000 in
theorem ggL_law_X8_lies : GoodIn wsL_law wsX8_lies := goodIn_r _ [965, 77, 62, 61, 483, 484, 485, 5, 486, 60, 430, 59, 487, 488, 489, 490, 491, 492, 493, 1212, 1213, 1214, 1215, 1216, 1217, 1218, 1219, 1220, 1221, 1222, 1223, 1224, 1225, 1226, 1227, 1228, 1229, 1230, 1231, 1232, 1233, 1234, 1235, 1236, 1237, 1238, 1239, 1240] (by decide +kernel) (by decide +kernel)
set_option maxRecDepth 20000 in
theorem gL_law_X8_lies : GoodIn wsL_law (wsV RL 128 RX8 yX8_lies wsX8_lies) := goodIn_app (goodIn_of _ (by decide +kernel)) ggL_law_X8_lies
set_option maxRecDepth 20000 in
theorem ggL_law_X7_rightly : GoodIn wsL_law wsX7_rightly := goodIn_r _ [969, 15, 25, 524, 296, 297, 14, 298, 122, 82, 83, 84, 2, 85, 31, 86, 87, 88, 89, 90, 91, 533, 304, 305, 306, 37, 970, 971, 972, 24, 973, 974, 49, 327, 328, 1204, 1205, 1206, 1207, 1208, 1209, 1210, 1211, 1241, 1242, 1243, 1244, 1245, 1246, 1247, 1248, 1249, 1250, 1251, 1252, 1255, 1256] (by decide +kernel) (by decide +kernel)
set_option maxRecDepth 20000 in
theorem gL_law_X7_rightly : GoodIn wsL_law (wsV RL 129 RX7 yX7_rightly wsX7_rightly) := goodIn_app (goodIn_of _ (by decide +kernel)) ggL_law_X7_rightly
set_option maxRecDepth 20000 in
theorem ggL_law_X8_rightly : GoodIn wsL_law wsX8_rightly := goodIn_r _ [978, 979, 75, 61, 451, 452, 453, 5, 454, 77, 109, 110, 111, 112, 58, 497, 498, 499, 1212, 1213, 1214, 1215, 1216, 1217, 1218, 1219, 1220, 1221, 1222, 1223, 1224, 1225, 1226, 1227, 1228, 1229, 1230, 1231, 1232, 1233, 1234, 1235, 1236, 1237, 1238, 1239, 1240] (by decide +kernel) (by decide +kernel)
set_option maxRecDepth 20000 in
theorem gL_law_X8_rightly : GoodIn wsL_law (wsV RL 132 RX8 yX8_rightly wsX8_rightly) := goodIn_app (goodIn_of _ (by decide +kernel)) ggL_law_X8_rightly
set_option maxRecDepth 20000 in
theorem ggL_law_X7_two : GoodIn wsL_law wsX7_two := goodIn_r _ [983, 15, 16, 524, 296, 297, 14, 298, 122, 82, 83, 84, 2, 85, 31, 86, 87, 88, 89, 90, 91, 716, 717, 718, 719, 720, 540, 541, 542, 123, 38, 327, 328, 984, 985, 723, 986, 987, 988, 989, 725, 118, 119, 120, 121, 35, 36, 37, 124, 39, 40, 41, 125, 126, 127, 726, 300, 301, 302, 303, 304, 305, 306, 990, 991, 992, 993, 994, 324, 325, 326, 995, 563, 564, 565, 337, 338, 339, 340, 329, 330, 331, 332, 341, 342, 343, 344, 345, 346, 347, 348, 349, 350, 351, 352, 353, 354, 355, 356, 357, 1204, 1205, 1206, 1207, 1208, 1209, 1210, 1211, 1241, 1242, 1243, 1244, 1245, 1246, 1247, 1248, 1249, 1250, 1251, 1252] (by decide +kernel) (by decide +kernel)
set_option maxRecDepth 20000 in
theorem gL_law_X7_two : GoodIn wsL_law (wsV RL 133 RX7 yX7_two wsX7_two) := goodIn_app (goodIn_of _ (by decide +kernel)) ggL_law_X7_two
set_option maxRecDepth 20000 in
theorem ggL_law_X8_two : GoodIn wsL_law wsX8_two := goodIn_r _ [999, 62, 76, 451, 452, 453, 5, 454, 77, 109, 110, 111, 112, 58, 1000, 1001, 1002, 1003, 61, 1004, 1005, 1006, 1007, 429, 67, 471, 472, 473, 474, 475, 476, 477, 478, 64, 65, 479, 480, 481, 482, 483, 484, 485, 486, 60, 430, 59, 487, 488, 489, 490, 491, 492, 493, 494, 495, 496, 497, 498, 499, 1212, 1213, 1214, 1215, 1216, 1217, 1218, 1219, 1220, 1221, 1222, 1223, 1224, 1225, 1226, 1227, 1228, 1229, 1230, 1231, 1232, 1233, 1234, 1235, 1236, 1237, 1238, 1239, 1240] (by decide +kernel) (by decide +kernel)
set_option maxRecDepth 20000 in
theorem gL_law_X8_two : GoodIn wsL_law (wsV RL 136 RX8 yX8_two wsX8_two) := goodIn_app (goodIn_of _ (by decide +kernel)) ggL_law_X8_two
set_option maxRecDepth 20000 in
theorem ggL_law_X7_chance : GoodIn wsL_law wsX7_chance := goodIn_r _ [1011, 15, 524, 296, 297, 14, 298, 122, 597, 598, 2, 599, 600, 601, 602, 1012, 1013, 1014, 1015, 1016, 82, 83, 84, 85, 31, 86, 87, 88, 89, 90, 91, 666, 667, 668, 1017, 1018, 1019, 1020, 1021, 1022, 208, 209, 210, 1023, 324, 325, 326, 125, 327, 328, 1024, 1025, 1026, 1027, 706, 563, 564, 565, 39, 337, 338, 339, 340, 40, 35, 36, 329, 330, 331, 332, 123, 38, 341, 342, 343, 344, 37, 121, 358, 359, 360, 361, 1028, 348, 349, 350, 351, 352, 353, 1029, 1030, 1031, 1032, 1033, 1034, 1204, 1205, 1206, 1207, 1208, 1209, 1210, 1211, 1241, 1242, 1243, 1244, 1245, 1246, 1247, 1248, 1249, 1250, 1251, 1252] (by decide +kernel) (by decide +kernel)
set_option maxRecDepth 20000 in
theorem gL_law_X7_chance : GoodIn wsL_law (wsV RL 137 RX7 yX7_chance wsX7_chance) := goodIn_app (goodIn_of _ (by decide +kernel)) ggL_law_X7_chance
set_option maxRecDepth 20000 in
theorem ggL_law_X8_chance : GoodIn wsL_law wsX8_chance := goodIn_r _ [1038, 429, 67, 451, 452, 453, 5, 454, 77, 106, 107, 108, 420, 421, 422, 1039, 1040, 1041, 1042, 58, 1043, 463, 464, 465, 466, 62, 475, 476, 477, 478, 64, 65, 479, 480, 481, 482, 483, 484, 485, 486, 61, 60, 430, 59, 487, 488, 489, 490, 491, 492, 493, 497, 498, 499, 1044, 1045, 1046, 1047, 1048, 1049, 1212, 1213, 1214, 1215, 1216, 1217, 1218, 1219, 1220, 1221, 1222, 1223, 1224, 1225, 1226, 1227, 1228, 1229, 1230, 1231, 1232, 1233, 1234, 1235, 1236, 1237, 1238, 1239, 1240] (by decide +kernel) (by decide +kernel)
set_option maxRecDepth 20000 in
theorem gL_law_X8_chance : GoodIn wsL_law (wsV RL 141 RX8 yX8_chance wsX8_chance) := goodIn_app (goodIn_of _ (by decide +kernel)) ggL_law_X8_chance
set_option maxRecDepth 20000 in
theorem ggL_law_X7_mean : GoodIn wsL_law wsX7_mean := goodIn_r _ [1053, 15, 666, 667, 2, 668, 1012, 1013, 1014, 1015, 1016, 82, 83, 84, 85, 31, 86, 87, 88, 89, 90, 91, 1054, 1055, 1019, 1056, 1057, 1022, 208, 209, 210, 1058, 304, 305, 14, 306, 37, 1028, 348, 349, 350, 351, 352, 353, 1029, 1030, 1031, 1032, 1033, 1034, 1204, 1205, 1206, 1207, 1208, 1209, 1210, 1211, 1241, 1242, 1243, 1244, 1245, 1246, 1247, 1248, 1249, 1250, 1251, 1252] (by decide +kernel) (by decide +kernel)
set_option maxRecDepth 20000 in
theorem gL_law_X7_mean : GoodIn wsL_law (wsV RL 142 RX7 yX7_mean wsX7_mean) := goodIn_app (goodIn_of _ (by decide +kernel)) ggL_law_X7_mean
set_option maxRecDepth 20000 in
theorem ggL_law_X8_mean : GoodIn wsL_law wsX8_mean := goodIn_r _ [1062, 77, 61, 420, 421, 5, 422, 1039, 1040, 1041, 1042, 58, 1043, 491, 492, 493, 1044, 1045, 1046, 1047, 1048, 1049, 1212, 1213, 1214, 1215, 1216, 1217, 1218, 1219, 1220, 1221, 1222, 1223, 1224, 1225, 1226, 1227, 1228, 1229, 1230, 1231, 1232, 1233, 1234, 1235, 1236, 1237, 1238, 1239, 1240] (by decide +kernel) (by decide +kernel)
set_option maxRecDepth 20000 in
theorem gL_law_X8_mean : GoodIn wsL_law (wsV RL 146 RX8 yX8_mean wsX8_mean) := goodIn_app (goodIn_of _ (by decide +kernel)) ggL_law_X8_mean
set_option maxRecDepth 20000 in
theorem ggL_law_X7_whatIs : GoodIn wsL_law wsX7_whatIs := goodIn_r _ [1066, 15, 25, 524, 296, 297, 14, 298, 122, 82, 83, 84, 2, 85, 31, 86, 87, 88, 89, 90, 91, 666, 667, 668, 1067, 1068, 1069, 24, 1070, 1071, 530, 531, 532, 36, 1072, 1073, 1074, 1075, 974, 49, 1076, 342, 343, 344, 37, 121, 1077, 1078, 1079, 1080, 1081, 526, 527, 528, 35, 1204, 1205, 1206, 1207, 1208, 1209, 1210, 1211, 1241, 1242, 1243, 1244, 1245, 1246, 1247, 1248, 1249, 1250, 1251, 1252, 1255, 1256] (by decide +kernel) (by decide +kernel)
set_option maxRecDepth 20000 in
theorem gL_law_X7_whatIs : GoodIn wsL_law (wsV RL 147 RX7 yX7_whatIs wsX7_whatIs) := goodIn_app (goodIn_of _ (by decide +kernel)) ggL_law_X7_whatIs
set_option maxRecDepth 20000 in
theorem ggL_law_X8_whatIs : GoodIn wsL_law wsX8_whatIs := goodIn_r _ [1085, 59, 60, 451, 452, 453, 5, 454, 77, 420, 421, 422, 109, 110, 111, 112, 58, 1086, 1087, 1088, 1089, 1090, 1091, 1092, 1093, 979, 75, 654, 655, 656, 657, 423, 424, 425, 426, 427, 428, 61, 62, 63, 64, 65, 66, 67, 429, 430, 431, 432, 433, 434, 72, 435, 436, 437, 438, 483, 484, 485, 486, 487, 488, 489, 490, 516, 517, 518, 519, 658, 659, 660, 661, 1212, 1213, 1214, 1215, 1216, 1217, 1218, 1219, 1220, 1221, 1222, 1223, 1224, 1225, 1226, 1227, 1228, 1229, 1230, 1231, 1232, 1233, 1234, 1235, 1236, 1237, 1238, 1239, 1240] (by decide +kernel) (by decide +kernel)
set_option maxRecDepth 20000 in
theorem gL_law_X8_whatIs : GoodIn wsL_law (wsV RL 150 RX8 yX8_whatIs wsX8_whatIs) := goodIn_app (goodIn_of _ (by decide +kernel)) ggL_law_X8_whatIs
set_option maxRecDepth 20000 in
theorem ggL_law_X7_row : GoodIn wsL_law wsX7_row := goodIn_r _ [1097, 25, 600, 601, 2, 602, 82, 83, 84, 85, 31, 86, 87, 88, 89, 90, 91, 1098, 1099, 1100, 24, 1101, 974, 1102, 1103, 1104, 1105, 49, 1204, 1205, 1206, 1207, 1208, 1209, 1210, 1211, 1255, 1256] (by decide +kernel) (by decide +kernel)
set_option maxRecDepth 20000 in
theorem gL_law_X7_row : GoodIn wsL_law (wsV RL 151 RX7 yX7_row wsX7_row) := goodIn_app (goodIn_of _ (by decide +kernel)) ggL_law_X7_row
set_option maxRecDepth 20000 in
theorem ggL_law_X8_row : GoodIn wsL_law wsX8_row := goodIn_r _ [1109, 979, 75, 106, 107, 5, 108, 109, 110, 111, 112, 58, 1212, 1213, 1214, 1215, 1216, 1217, 1218, 1219, 1220, 1221, 1222, 1223, 1224, 1225, 1226, 1227, 1228, 1229, 1230, 1231, 1232, 1233, 1234, 1235, 1236, 1237, 1238, 1239, 1240] (by decide +kernel) (by decide +kernel)
set_option maxRecDepth 20000 in
theorem gL_law_X8_row : GoodIn wsL_law (wsV RL 154 RX8 yX8_row wsX8_row) := goodIn_app (goodIn_of _ (by decide +kernel)) ggL_law_X8_row
set_option maxRecDepth 20000 in
theorem ggL_law_X7_judge : GoodIn wsL_law wsX7_judge := goodIn_r _ [1113, 25, 15, 1114, 1115, 1116, 24, 1117, 974, 49, 1118, 311, 312, 14, 313, 124, 1119, 563, 564, 565, 39, 87, 2, 88, 337, 338, 339, 340, 40, 122, 35, 36, 329, 330, 331, 332, 123, 38, 327, 328, 341, 342, 343, 344, 37, 121, 1120, 348, 349, 350, 351, 352, 353, 1121, 1122, 1123, 1124, 1204, 1205, 1206, 1207, 1208, 1209, 1210, 1211, 1255, 1256, 1241, 1242, 1243, 1244, 1245, 1246, 1247, 1248, 1249, 1250, 1251, 1252] (by decide +kernel) (by decide +kernel)
set_option maxRecDepth 20000 in
theorem gL_law_X7_judge : GoodIn wsL_law (wsV RL 155 RX7 yX7_judge wsX7_judge) := goodIn_app (goodIn_of _ (by decide +kernel)) ggL_law_X7_judge
set_option maxRecDepth 20000 in
theorem ggL_law_X8_judge : GoodIn wsL_law wsX8_judge := goodIn_r _ [1128, 979, 429, 75, 475, 476, 477, 5, 478, 64, 65, 479, 480, 481, 482, 77, 62, 483, 484, 485, 486, 61, 60, 430, 59, 487, 488, 489, 490, 491, 492, 493, 1212, 1213, 1214, 1215, 1216, 1217, 1218, 1219, 1220, 1221, 1222, 1223, 1224, 1225, 1226, 1227, 1228, 1229, 1230, 1231, 1232, 1233, 1234, 1235, 1236, 1237, 1238, 1239, 1240] (by decide +kernel) (by decide +kernel)
set_option maxRecDepth 20000 in
theorem gL_law_X8_judge : GoodIn wsL_law (wsV RL 158 RX8 yX8_judge wsX8_judge) := goodIn_app (goodIn_of _ (by decide +kernel)) ggL_law_X8_judge
set_option maxRecDepth 20000 in
theorem ggL_law_X7_clear : GoodIn wsL_law wsX7_clear := goodIn_r _ [1132, 25, 1133, 1121, 1122, 1123, 24, 1124, 974, 1204, 1205, 1206, 1207, 1208, 1209, 1210, 1211, 1255, 1256] (by decide +kernel) (by decide +kernel)
set_option maxRecDepth 20000 in
theorem gL_law_X7_clear : GoodIn wsL_law (wsV RL 159 RX7 yX7_clear wsX7_clear) := goodIn_app (goodIn_of _ (by decide +kernel)) ggL_law_X7_clear
set_option maxRecDepth 20000 in
theorem ggL_law_X8_clear : GoodIn wsL_law wsX8_clear := goodIn_r _ [1137, 979, 1212, 1213, 1214, 1215, 1216, 1217, 1218, 1219, 1220, 1221, 1222, 1223, 1224, 1225, 1226, 1227, 1228, 1229, 1230, 1231, 1232, 1233, 1234, 1235, 1236, 1237, 1238, 1239, 1240] (by decide +kernel) (by decide +kernel)
set_option maxRecDepth 20000 in
theorem gL_law_X8_clear : GoodIn wsL_law (wsV RL 162 RX8 yX8_clear wsX8_clear) := goodIn_app (goodIn_of _ (by decide +kernel)) ggL_law_X8_clear
set_option maxRecDepth 20000 in
theorem ggL_law_X7_lots : GoodIn wsL_law wsX7_lots := goodIn_r _ [1141, 16, 15, 600, 601, 2, 602, 82, 83, 84, 85, 31, 86, 87, 88, 89, 90, 91, 666, 667, 668, 117, 118, 119, 14, 120, 121, 122, 35, 36, 37, 38, 123, 124, 39, 40, 41, 125, 126, 127, 1142, 1143, 1144, 1145, 1146, 1147, 1148, 1149, 1150, 1151, 1152, 1153, 1154, 288, 289, 290, 291, 944, 945, 946, 947, 707, 319, 320, 321, 322, 311, 312, 313, 323, 324, 325, 326, 327, 328, 329, 330, 331, 332, 948, 334, 335, 336, 337, 338, 339, 340, 341, 342, 343, 344, 345, 346, 347, 348, 349, 350, 351, 352, 353, 354, 355, 356, 357, 358, 359, 360, 361, 362, 363, 364, 365, 1204, 1205, 1206, 1207, 1208, 1209, 1210, 1211, 1241, 1242, 1243, 1244, 1245, 1246, 1247, 1248, 1249, 1250, 1251, 1252] (by decide +kernel) (by decide +kernel)
set_option maxRecDepth 20000 in
theorem gL_law_X7_lots : GoodIn wsL_law (wsV RL 163 RX7 yX7_lots wsX7_lots) := goodIn_app (goodIn_of _ (by decide +kernel)) ggL_law_X7_lots
set_option maxRecDepth 20000 in
theorem ggL_law_X8_lots : GoodIn wsL_law wsX8_lots := goodIn_r _ [1158, 1159, 77, 61, 429, 65, 106, 107, 5, 108, 420, 421, 422, 109, 110, 111, 112, 58, 654, 655, 656, 657, 423, 424, 425, 426, 427, 428, 59, 60, 62, 63, 64, 66, 67, 430, 431, 432, 433, 434, 72, 435, 436, 437, 438, 1160, 1161, 1162, 1163, 1164, 1165, 1166, 953, 954, 955, 956, 459, 460, 461, 462, 463, 464, 465, 466, 467, 468, 469, 470, 471, 472, 473, 474, 475, 476, 477, 478, 479, 480, 481, 482, 483, 484, 485, 486, 487, 488, 489, 490, 491, 492, 493, 494, 495, 496, 497, 498, 499, 500, 501, 502, 503, 504, 505, 506, 507, 658, 659, 660, 661, 1212, 1213, 1214, 1215, 1216, 1217, 1218, 1219, 1220, 1221, 1222, 1223, 1224, 1225, 1226, 1227, 1228, 1229, 1230, 1231, 1232, 1233, 1234, 1235, 1236, 1237, 1238, 1239, 1240] (by decide +kernel) (by decide +kernel)
set_option maxRecDepth 20000 in
theorem gL_law_X8_lots : GoodIn wsL_law (wsV RL 166 RX8 yX8_lots wsX8_lots) := goodIn_app (goodIn_of _ (by decide +kernel)) ggL_law_X8_lots
set_option maxRecDepth 20000 in
theorem ggL_law_X7_image : GoodIn wsL_law wsX7_image := goodIn_r _ [1170, 17, 15, 1171, 1172, 117, 118, 119, 14, 120, 121, 122, 35, 36, 37, 38, 123, 124, 39, 40, 41, 125, 126, 2, 127, 1204, 1205, 1206, 1207, 1208, 1209, 1210, 1211, 1241, 1242, 1243, 1244, 1245, 1246, 1247, 1248, 1249, 1250, 1251, 1252] (by decide +kernel) (by decide +kernel)
set_option maxRecDepth 20000 in
theorem gL_law_X7_image : GoodIn wsL_law (wsV RL 167 RX7 yX7_image wsX7_image) := goodIn_app (goodIn_of _ (by decide +kernel)) ggL_law_X7_image
set_option maxRecDepth 20000 in
theorem ggL_law_X8_image : GoodIn wsL_law wsX8_image := goodIn_r _ [1176, 1177, 430, 423, 424, 425, 5, 426, 427, 428, 59, 60, 61, 62, 63, 64, 65, 66, 67, 77, 429, 431, 432, 433, 434, 72, 435, 436, 437, 438, 1212, 1213, 1214, 1215, 1216, 1217, 1218, 1219, 1220, 1221, 1222, 1223, 1224, 1225, 1226, 1227, 1228, 1229, 1230, 1231, 1232, 1233, 1234, 1235, 1236, 1237, 1238, 1239, 1240] (by decide +kernel) (by decide +kernel)
set_option maxRecDepth 20000 in
theorem gL_law_X8_image : GoodIn wsL_law (wsV RL 170 RX8 yX8_image wsX8_image) := goodIn_app (goodIn_of _ (by decide +kernel)) ggL_law_X8_image
set_option maxRecDepth 20000 in
theorem ggL_law_X7_on : GoodIn wsL_law wsX7_on := goodIn_r _ [1181, 1171, 15, 17, 1172, 82, 83, 84, 2, 85, 31, 86, 87, 88, 89, 90, 91, 117, 118, 119, 14, 120, 121, 122, 35, 36, 37, 38, 123, 124, 39, 40, 41, 125, 126, 127, 1204, 1205, 1206, 1207, 1208, 1209, 1210, 1211, 1241, 1242, 1243, 1244, 1245, 1246, 1247, 1248, 1249, 1250, 1251, 1252] (by decide +kernel) (by decide +kernel)
set_option maxRecDepth 20000 in
theorem gL_law_X7_on : GoodIn wsL_law (wsV RL 171 RX7 yX7_on wsX7_on) := goodIn_app (goodIn_of _ (by decide +kernel)) ggL_law_X7_on
set_option maxRecDepth 20000 in
theorem ggL_law_X8_on : GoodIn wsL_law wsX8_on := goodIn_r _ [1185, 1177, 430, 109, 110, 111, 5, 112, 58, 423, 424, 425, 426, 427, 428, 59, 60, 61, 62, 63, 64, 65, 66, 67, 77, 429, 431, 432, 433, 434, 72, 435, 436, 437, 438, 1212, 1213, 1214, 1215, 1216, 1217, 1218, 1219, 1220, 1221, 1222, 1223, 1224, 1225, 1226, 1227, 1228, 1229, 1230, 1231, 1232, 1233, 1234, 1235, 1236, 1237, 1238, 1239, 1240] (by decide +kernel) (by decide +kernel)
set_option maxRecDepth 20000 in
theorem gL_law_X8_on : GoodIn wsL_law (wsV RL 174 RX8 yX8_on wsX8_on) := goodIn_app (goodIn_of _ (by decide +kernel)) ggL_law_X8_on
set_option maxRecDepth 20000 in
theorem ggL_law_X7_count : GoodIn wsL_law wsX7_count := goodIn_r _ [1189, 31, 15, 961, 857, 1172, 1190, 25, 1133, 21, 1191, 86, 87, 2, 88, 641, 330, 331, 14, 332, 122, 123, 38, 327, 328, 1192, 1193, 1194, 1195, 124, 382, 383, 384, 385, 41, 1204, 1205, 1206, 1207, 1208, 1209, 1210, 1211, 1241, 1242, 1243, 1244, 1245, 1246, 1247, 1248, 1249, 1250, 1251, 1252, 1255, 1256, 1253, 1254] (by decide +kernel) (by decide +kernel)
set_option maxRecDepth 20000 in
theorem gL_law_X7_count : GoodIn wsL_law (wsV RL 175 RX7 yX7_count wsX7_count) := goodIn_app (goodIn_of _ (by decide +kernel)) ggL_law_X7_count
set_option maxRecDepth 20000 in
theorem ggL_law_X8_count : GoodIn wsL_law wsX8_count := goodIn_r _ [1199, 58, 77, 429, 430, 66, 979, 105, 420, 421, 5, 422, 463, 464, 465, 466, 62, 1200, 1201, 1202, 1203, 67, 1212, 1213, 1214, 1215, 1216, 1217, 1218, 1219, 1220, 1221, 1222, 1223, 1224, 1225, 1226, 1227, 1228, 1229, 1230, 1231, 1232, 1233, 1234, 1235, 1236, 1237, 1238, 1239, 1240] (by decide +kernel) (by decide +kernel)
set_option maxRecDepth 20000 in
theorem gL_law_X8_count : GoodIn wsL_law (wsV RL 178 RX8 yX8_count wsX8_count) := goodIn_app (goodIn_of _ (by decide +kernel)) ggL_law_X8_count
