set_option maxRecDepth 20000 in
theorem ggL_law_X7_init : GoodIn wsL_law wsX7_init := goodIn_r _ [8, 9, 10, 11, 12, 13, 14, 15, 16, 17, 18, 19, 20, 21, 22, 23, 24, 25, 26, 27, 28, 29, 30, 31, 32, 33, 34, 35, 36, 37, 38, 39, 40, 41, 42, 43, 44, 45, 46, 47, 48, 49, 50, 51, 52, 53, 1241, 1242, 1243, 1244, 1245, 1246, 1247, 1248, 1249, 1250, 1251, 1252, 1204, 1205, 1206, 1207, 1208, 1209, 1210, 1211, 1253, 1254, 1255, 1256, 1257, 1258] (by decide +kernel) (by decide +kernel)
set_option maxRecDepth 20000 in
theorem gL_law_X7_init : GoodIn wsL_law (wsX7_init) := ggL_law_X7_init
set_option maxRecDepth 20000 in
theorem ggL_law_X8_init : GoodIn wsL_law wsX8_init := goodIn_r _ [56, 57, 10, 11, 30, 58, 59, 60, 61, 62, 63, 64, 65, 66, 67, 68, 69, 70, 71, 72, 73, 74, 75, 76, 77, 1212, 1213, 1214, 1215, 1216, 1217, 1218, 1219, 1220, 1221, 1222, 1223, 1224, 1225, 1226, 1227, 1228, 1229, 1230, 1231, 1232, 1233, 1234, 1235, 1236, 1237, 1238, 1239, 1240] (by decide +kernel) (by decide +kernel)
set_option maxRecDepth 20000 in
theorem gL_law_X8_init : GoodIn wsL_law (wsX8_init) := ggL_law_X8_init
set_option maxRecDepth 20000 in
theorem ggL_law_X7_letter : GoodIn wsL_law wsX7_letter := goodIn_r _ [81, 21, 82, 83, 84, 2, 85, 31, 86, 87, 88, 89, 90, 91, 92, 93, 94, 20, 95, 96, 97, 98, 99, 100, 45, 1204, 1205, 1206, 1207, 1208, 1209, 1210, 1211, 1253, 1254] (by decide +kernel) (by decide +kernel)
set_option maxRecDepth 20000 in
theorem gL_law_X7_letter : GoodIn wsL_law (wsV RL 13 RX7 yX7_letter wsX7_letter) := goodIn_app (goodIn_of _ (by decide +kernel)) ggL_law_X7_letter
set_option maxRecDepth 20000 in
theorem ggL_law_X8_letter : GoodIn wsL_law wsX8_letter := goodIn_r _ [104, 105, 68, 106, 107, 5, 108, 109, 110, 111, 112, 58, 1212, 1213, 1214, 1215, 1216, 1217, 1218, 1219, 1220, 1221, 1222, 1223, 1224, 1225, 1226, 1227, 1228, 1229, 1230, 1231, 1232, 1233, 1234, 1235, 1236, 1237, 1238, 1239, 1240] (by decide +kernel) (by decide +kernel)
set_option maxRecDepth 20000 in
theorem gL_law_X8_letter : GoodIn wsL_law (wsV RL 17 RX8 yX8_letter wsX8_letter) := goodIn_app (goodIn_of _ (by decide +kernel)) ggL_law_X8_letter
set_option maxRecDepth 20000 in
theorem ggL_law_X7_valley : GoodIn wsL_law wsX7_valley := goodIn_r _ [116, 16, 15, 21, 117, 118, 119, 14, 120, 121, 122, 35, 36, 37, 38, 123, 124, 39, 40, 41, 125, 126, 2, 127, 128, 129, 130, 20, 131, 96, 45, 132, 133, 134, 135, 87, 88, 136, 137, 138, 139, 140, 141, 142, 143, 144, 145, 146, 147, 148, 149, 150, 151, 152, 153, 154, 155, 156, 157, 158, 159, 160, 161, 162, 163, 164, 165, 166, 167, 168, 169, 170, 171, 172, 173, 174, 175, 176, 177, 178, 179, 180, 181, 182, 183, 184, 185, 186, 187, 188, 189, 190, 191, 192, 193, 194, 195, 196, 197, 198, 199, 200, 201, 202, 203, 204, 205, 206, 207, 208, 209, 210, 211, 212, 213, 214, 215, 216, 217, 218, 219, 220, 221, 222, 223, 224, 225, 226, 227, 228, 229, 230, 231, 232, 233, 234, 235, 236, 237, 238, 239, 240, 241, 242, 243, 244, 245, 246, 247, 248, 249, 250, 251, 252, 253, 254, 255, 256, 257, 258, 259, 260, 261, 262, 263, 264, 265, 266, 267, 268, 269, 270, 271, 272, 273, 274, 275, 276, 277, 278, 279, 90, 91, 280, 281, 282, 283, 284, 285, 286, 287, 288, 289, 290, 291, 292, 293, 294, 295, 296, 297, 298, 299, 300, 301, 302, 303, 304, 305, 306, 307, 308, 309, 310, 311, 312, 313, 314, 315, 316, 317, 318, 319, 320, 321, 322, 323, 324, 325, 326, 327, 328, 329, 330, 331, 332, 333, 334, 335, 336, 337, 338, 339, 340, 341, 342, 343, 344, 345, 346, 347, 348, 349, 350, 351, 352, 353, 354, 355, 356, 357, 358, 359, 360, 361, 362, 363, 364, 365, 366, 367, 368, 369, 370, 371, 372, 373, 374, 375, 376, 377, 378, 379, 380, 381, 382, 383, 384, 385, 386, 387, 388, 389, 390, 1204, 1205, 1206, 1207, 1208, 1209, 1210, 1211, 1241, 1242, 1243, 1244, 1245, 1246, 1247, 1248, 1249, 1250, 1251, 1252, 1253, 1254] (by decide +kernel) (by decide +kernel)
set_option maxRecDepth 20000 in
theorem gL_law_X7_valley : GoodIn wsL_law (wsV RL 18 RX7 yX7_valley wsX7_valley) := goodIn_app (goodIn_of _ (by decide +kernel)) ggL_law_X7_valley
set_option maxRecDepth 20000 in
theorem ggL_law_X8_valley : GoodIn wsL_law wsX8_valley := goodIn_r _ [394, 395, 396, 105, 70, 397, 398, 399, 5, 400, 69, 401, 402, 403, 404, 68, 405, 406, 407, 408, 409, 410, 411, 412, 71, 413, 414, 415, 416, 417, 418, 419, 420, 421, 422, 423, 424, 425, 426, 427, 428, 59, 60, 61, 62, 63, 64, 65, 66, 67, 77, 429, 430, 431, 432, 433, 434, 72, 435, 436, 437, 438, 439, 440, 441, 442, 443, 444, 445, 446, 447, 448, 449, 450, 451, 452, 453, 454, 455, 456, 457, 458, 459, 460, 461, 462, 463, 464, 465, 466, 467, 468, 469, 470, 471, 472, 473, 474, 475, 476, 477, 478, 479, 480, 481, 482, 483, 484, 485, 486, 487, 488, 489, 490, 491, 492, 493, 494, 495, 496, 497, 498, 499, 500, 501, 502, 503, 504, 505, 506, 507, 508, 509, 510, 511, 512, 513, 514, 515, 516, 517, 518, 519, 1212, 1213, 1214, 1215, 1216, 1217, 1218, 1219, 1220, 1221, 1222, 1223, 1224, 1225, 1226, 1227, 1228, 1229, 1230, 1231, 1232, 1233, 1234, 1235, 1236, 1237, 1238, 1239, 1240] (by decide +kernel) (by decide +kernel)
set_option maxRecDepth 20000 in
theorem gL_law_X8_valley : GoodIn wsL_law (wsV RL 22 RX8 yX8_valley wsX8_valley) := goodIn_app (goodIn_of _ (by decide +kernel)) ggL_law_X8_valley
set_option maxRecDepth 20000 in
theorem ggL_law_X7_bride : GoodIn wsL_law wsX7_bride := goodIn_r _ [523, 15, 524, 296, 297, 14, 298, 122, 82, 83, 84, 2, 85, 31, 86, 87, 88, 89, 90, 91, 525, 526, 527, 528, 35, 529, 530, 531, 532, 36, 533, 304, 305, 306, 37, 534, 535, 536, 537, 341, 342, 343, 344, 121, 538, 379, 380, 381, 38, 539, 540, 541, 542, 123, 327, 328, 1204, 1205, 1206, 1207, 1208, 1209, 1210, 1211, 1241, 1242, 1243, 1244, 1245, 1246, 1247, 1248, 1249, 1250, 1251, 1252] (by decide +kernel) (by decide +kernel)
set_option maxRecDepth 20000 in
theorem gL_law_X7_bride : GoodIn wsL_law (wsV RL 23 RX7 yX7_bride wsX7_bride) := goodIn_app (goodIn_of _ (by decide +kernel)) ggL_law_X7_bride
set_option maxRecDepth 20000 in
theorem ggL_law_X8_bride : GoodIn wsL_law wsX8_bride := goodIn_r _ [546, 59, 60, 61, 63, 62, 451, 452, 453, 5, 454, 77, 109, 110, 111, 112, 58, 483, 484, 485, 486, 430, 487, 488, 489, 490, 1212, 1213, 1214, 1215, 1216, 1217, 1218, 1219, 1220, 1221, 1222, 1223, 1224, 1225, 1226, 1227, 1228, 1229, 1230, 1231, 1232, 1233, 1234, 1235, 1236, 1237, 1238, 1239, 1240] (by decide +kernel) (by decide +kernel)
set_option maxRecDepth 20000 in
theorem gL_law_X8_bride : GoodIn wsL_law (wsV RL 27 RX8 yX8_bride wsX8_bride) := goodIn_app (goodIn_of _ (by decide +kernel)) ggL_law_X8_bride
set_option maxRecDepth 20000 in
theorem ggL_law_X7_groom : GoodIn wsL_law wsX7_groom := goodIn_r _ [550, 15, 551, 311, 312, 14, 313, 124, 82, 83, 84, 2, 85, 31, 86, 87, 88, 89, 90, 91, 552, 553, 554, 555, 39, 556, 557, 558, 559, 40, 560, 383, 384, 385, 41, 561, 324, 325, 326, 125, 327, 328, 562, 563, 564, 565, 337, 338, 339, 340, 122, 35, 36, 329, 330, 331, 332, 123, 38, 341, 342, 343, 344, 37, 121, 566, 567, 568, 569, 345, 346, 347, 348, 349, 350, 351, 352, 353, 354, 355, 356, 357, 1204, 1205, 1206, 1207, 1208, 1209, 1210, 1211, 1241, 1242, 1243, 1244, 1245, 1246, 1247, 1248, 1249, 1250, 1251, 1252] (by decide +kernel) (by decide +kernel)
set_option maxRecDepth 20000 in
theorem gL_law_X7_groom : GoodIn wsL_law (wsV RL 28 RX7 yX7_groom wsX7_groom) := goodIn_app (goodIn_of _ (by decide +kernel)) ggL_law_X7_groom
set_option maxRecDepth 20000 in
theorem ggL_law_X8_groom : GoodIn wsL_law wsX8_groom := goodIn_r _ [573, 64, 65, 66, 67, 455, 456, 457, 5, 458, 429, 109, 110, 111, 112, 58, 475, 476, 477, 478, 479, 480, 481, 482, 77, 62, 483, 484, 485, 486, 61, 60, 430, 59, 487, 488, 489, 490, 471, 472, 473, 474, 491, 492, 493, 494, 495, 496, 497, 498, 499, 1212, 1213, 1214, 1215, 1216, 1217, 1218, 1219, 1220, 1221, 1222, 1223, 1224, 1225, 1226, 1227, 1228, 1229, 1230, 1231, 1232, 1233, 1234, 1235, 1236, 1237, 1238, 1239, 1240] (by decide +kernel) (by decide +kernel)
set_option maxRecDepth 20000 in
theorem gL_law_X8_groom : GoodIn wsL_law (wsV RL 31 RX8 yX8_groom wsX8_groom) := goodIn_app (goodIn_of _ (by decide +kernel)) ggL_law_X8_groom
set_option maxRecDepth 20000 in
theorem ggL_law_X7_wedding : GoodIn wsL_law wsX7_wedding := goodIn_r _ [577, 15, 551, 311, 312, 14, 313, 124, 82, 83, 84, 2, 85, 31, 86, 87, 88, 89, 90, 91, 578, 319, 320, 321, 322, 323, 324, 325, 326, 125, 327, 328, 329, 330, 331, 332, 122, 123, 38, 579, 334, 335, 336, 41, 39, 337, 338, 339, 340, 40, 35, 36, 341, 342, 343, 344, 37, 121, 345, 346, 347, 348, 349, 350, 351, 352, 353, 354, 355, 356, 357, 358, 359, 360, 361, 362, 363, 364, 365, 1204, 1205, 1206, 1207, 1208, 1209, 1210, 1211, 1241, 1242, 1243, 1244, 1245, 1246, 1247, 1248, 1249, 1250, 1251, 1252] (by decide +kernel) (by decide +kernel)
set_option maxRecDepth 20000 in
theorem gL_law_X7_wedding : GoodIn wsL_law (wsV RL 32 RX7 yX7_wedding wsX7_wedding) := goodIn_app (goodIn_of _ (by decide +kernel)) ggL_law_X7_wedding
set_option maxRecDepth 20000 in
theorem ggL_law_X8_wedding : GoodIn wsL_law wsX8_wedding := goodIn_r _ [583, 455, 456, 457, 5, 458, 429, 459, 460, 461, 462, 67, 463, 464, 465, 466, 77, 62, 109, 110, 111, 112, 58, 467, 468, 469, 470, 66, 471, 472, 473, 474, 475, 476, 477, 478, 64, 65, 479, 480, 481, 482, 483, 484, 485, 486, 61, 60, 430, 59, 487, 488, 489, 490, 491, 492, 493, 494, 495, 496, 497, 498, 499, 500, 501, 502, 503, 63, 504, 505, 506, 507, 1212, 1213, 1214, 1215, 1216, 1217, 1218, 1219, 1220, 1221, 1222, 1223, 1224, 1225, 1226, 1227, 1228, 1229, 1230, 1231, 1232, 1233, 1234, 1235, 1236, 1237, 1238, 1239, 1240] (by decide +kernel) (by decide +kernel)
set_option maxRecDepth 20000 in
theorem gL_law_X8_wedding : GoodIn wsL_law (wsV RL 35 RX8 yX8_wedding wsX8_wedding) := goodIn_app (goodIn_of _ (by decide +kernel)) ggL_law_X8_wedding
set_option maxRecDepth 20000 in
theorem ggL_law_X7_changes : GoodIn wsL_law wsX7_changes := goodIn_r _ [587, 15, 524, 296, 297, 14, 298, 122, 82, 83, 84, 2, 85, 31, 86, 87, 88, 89, 90, 91, 588, 300, 301, 302, 37, 303, 304, 305, 306, 533, 1204, 1205, 1206, 1207, 1208, 1209, 1210, 1211, 1241, 1242, 1243, 1244, 1245, 1246, 1247, 1248, 1249, 1250, 1251, 1252] (by decide +kernel) (by decide +kernel)
set_option maxRecDepth 20000 in
theorem gL_law_X7_changes : GoodIn wsL_law (wsV RL 36 RX7 yX7_changes wsX7_changes) := goodIn_app (goodIn_of _ (by decide +kernel)) ggL_law_X7_changes
set_option maxRecDepth 20000 in
theorem ggL_law_X8_changes : GoodIn wsL_law wsX8_changes := goodIn_r _ [592, 61, 451, 452, 453, 5, 454, 77, 420, 421, 422, 109, 110, 111, 112, 58, 1212, 1213, 1214, 1215, 1216, 1217, 1218, 1219, 1220, 1221, 1222, 1223, 1224, 1225, 1226, 1227, 1228, 1229, 1230, 1231, 1232, 1233, 1234, 1235, 1236, 1237, 1238, 1239, 1240] (by decide +kernel) (by decide +kernel)
set_option maxRecDepth 20000 in
theorem gL_law_X8_changes : GoodIn wsL_law (wsV RL 39 RX8 yX8_changes wsX8_changes) := goodIn_app (goodIn_of _ (by decide +kernel)) ggL_law_X8_changes
set_option maxRecDepth 20000 in
theorem ggL_law_X7_looks : GoodIn wsL_law wsX7_looks := goodIn_r _ [596, 15, 551, 311, 312, 14, 313, 124, 597, 598, 2, 599, 600, 601, 602, 82, 83, 84, 85, 31, 86, 87, 88, 89, 90, 91, 552, 553, 554, 555, 39, 603, 285, 286, 287, 1204, 1205, 1206, 1207, 1208, 1209, 1210, 1211, 1241, 1242, 1243, 1244, 1245, 1246, 1247, 1248, 1249, 1250, 1251, 1252] (by decide +kernel) (by decide +kernel)
set_option maxRecDepth 20000 in
theorem gL_law_X7_looks : GoodIn wsL_law (wsV RL 40 RX7 yX7_looks wsX7_looks) := goodIn_app (goodIn_of _ (by decide +kernel)) ggL_law_X7_looks
set_option maxRecDepth 20000 in
theorem ggL_law_X8_looks : GoodIn wsL_law wsX8_looks := goodIn_r _ [607, 64, 455, 456, 457, 5, 458, 429, 106, 107, 108, 109, 110, 111, 112, 58, 1212, 1213, 1214, 1215, 1216, 1217, 1218, 1219, 1220, 1221, 1222, 1223, 1224, 1225, 1226, 1227, 1228, 1229, 1230, 1231, 1232, 1233, 1234, 1235, 1236, 1237, 1238, 1239, 1240] (by decide +kernel) (by decide +kernel)
set_option maxRecDepth 20000 in
theorem gL_law_X8_looks : GoodIn wsL_law (wsV RL 43 RX8 yX8_looks wsX8_looks) := goodIn_app (goodIn_of _ (by decide +kernel)) ggL_law_X8_looks
set_option maxRecDepth 20000 in
theorem ggL_law_X7_minds : GoodIn wsL_law wsX7_minds := goodIn_r _ [611, 15, 551, 311, 312, 14, 313, 124, 597, 598, 2, 599, 600, 601, 602, 82, 83, 84, 85, 31, 86, 87, 88, 89, 90, 91, 556, 557, 558, 559, 40, 612, 289, 290, 291, 1204, 1205, 1206, 1207, 1208, 1209, 1210, 1211, 1241, 1242, 1243, 1244, 1245, 1246, 1247, 1248, 1249, 1250, 1251, 1252] (by decide +kernel) (by decide +kernel)
set_option maxRecDepth 20000 in
theorem gL_law_X7_minds : GoodIn wsL_law (wsV RL 44 RX7 yX7_minds wsX7_minds) := goodIn_app (goodIn_of _ (by decide +kernel)) ggL_law_X7_minds
set_option maxRecDepth 20000 in
theorem ggL_law_X8_minds : GoodIn wsL_law wsX8_minds := goodIn_r _ [616, 65, 455, 456, 457, 5, 458, 429, 106, 107, 108, 109, 110, 111, 112, 58, 1212, 1213, 1214, 1215, 1216, 1217, 1218, 1219, 1220, 1221, 1222, 1223, 1224, 1225, 1226, 1227, 1228, 1229, 1230, 1231, 1232, 1233, 1234, 1235, 1236, 1237, 1238, 1239, 1240] (by decide +kernel) (by decide +kernel)
set_option maxRecDepth 20000 in
theorem gL_law_X8_minds : GoodIn wsL_law (wsV RL 47 RX8 yX8_minds wsX8_minds) := goodIn_app (goodIn_of _ (by decide +kernel)) ggL_law_X8_minds
set_option maxRecDepth 20000 in
theorem ggL_law_X7_drinks : GoodIn wsL_law wsX7_drinks := goodIn_r _ [620, 15, 551, 311, 312, 14, 313, 124, 597, 598, 2, 599, 600, 601, 602, 82, 83, 84, 85, 31, 86, 87, 88, 89, 90, 91, 560, 383, 384, 385, 41, 621, 315, 316, 317, 1204, 1205, 1206, 1207, 1208, 1209, 1210, 1211, 1241, 1242, 1243, 1244, 1245, 1246, 1247, 1248, 1249, 1250, 1251, 1252] (by decide +kernel) (by decide +kernel)
set_option maxRecDepth 20000 in
theorem gL_law_X7_drinks : GoodIn wsL_law (wsV RL 48 RX7 yX7_drinks wsX7_drinks) := goodIn_app (goodIn_of _ (by decide +kernel)) ggL_law_X7_drinks
set_option maxRecDepth 20000 in
theorem ggL_law_X8_drinks : GoodIn wsL_law wsX8_drinks := goodIn_r _ [625, 66, 455, 456, 457, 5, 458, 429, 106, 107, 108, 109, 110, 111, 112, 58, 1212, 1213, 1214, 1215, 1216, 1217, 1218, 1219, 1220, 1221, 1222, 1223, 1224, 1225, 1226, 1227, 1228, 1229, 1230, 1231, 1232, 1233, 1234, 1235, 1236, 1237, 1238, 1239, 1240] (by decide +kernel) (by decide +kernel)
set_option maxRecDepth 20000 in
theorem gL_law_X8_drinks : GoodIn wsL_law (wsV RL 51 RX8 yX8_drinks wsX8_drinks) := goodIn_app (goodIn_of _ (by decide +kernel)) ggL_law_X8_drinks
set_option maxRecDepth 20000 in
theorem ggL_law_X7_turn : GoodIn wsL_law wsX7_turn := goodIn_r _ [629, 15, 524, 296, 297, 14, 298, 122, 82, 83, 84, 2, 85, 31, 86, 87, 88, 89, 90, 91, 600, 601, 602, 525, 526, 527, 528, 35, 529, 530, 531, 532, 36, 630, 277, 278, 279, 1204, 1205, 1206, 1207, 1208, 1209, 1210, 1211, 1241, 1242, 1243, 1244, 1245, 1246, 1247, 1248, 1249, 1250, 1251, 1252] (by decide +kernel) (by decide +kernel)
set_option maxRecDepth 20000 in
theorem gL_law_X7_turn : GoodIn wsL_law (wsV RL 52 RX7 yX7_turn wsX7_turn) := goodIn_app (goodIn_of _ (by decide +kernel)) ggL_law_X7_turn
set_option maxRecDepth 20000 in
theorem ggL_law_X8_turn : GoodIn wsL_law wsX8_turn := goodIn_r _ [634, 59, 60, 451, 452, 453, 5, 454, 77, 420, 421, 422, 106, 107, 108, 109, 110, 111, 112, 58, 1212, 1213, 1214, 1215, 1216, 1217, 1218, 1219, 1220, 1221, 1222, 1223, 1224, 1225, 1226, 1227, 1228, 1229, 1230, 1231, 1232, 1233, 1234, 1235, 1236, 1237, 1238, 1239, 1240] (by decide +kernel) (by decide +kernel)
set_option maxRecDepth 20000 in
theorem gL_law_X8_turn : GoodIn wsL_law (wsV RL 56 RX8 yX8_turn wsX8_turn) := goodIn_app (goodIn_of _ (by decide +kernel)) ggL_law_X8_turn
set_option maxRecDepth 20000 in
theorem ggL_law_X7_years : GoodIn wsL_law wsX7_years := goodIn_r _ [638, 15, 600, 601, 2, 602, 82, 83, 84, 85, 31, 86, 87, 88, 89, 90, 91, 639, 370, 371, 14, 372, 121, 640, 374, 375, 376, 122, 38, 377, 208, 209, 210, 124, 378, 379, 380, 381, 382, 383, 384, 385, 41, 386, 315, 316, 317, 641, 330, 331, 332, 123, 327, 328, 347, 348, 349, 350, 351, 352, 353, 1204, 1205, 1206, 1207, 1208, 1209, 1210, 1211, 1241, 1242, 1243, 1244, 1245, 1246, 1247, 1248, 1249, 1250, 1251, 1252] (by decide +kernel) (by decide +kernel)
set_option maxRecDepth 20000 in
theorem gL_law_X7_years : GoodIn wsL_law (wsV RL 57 RX7 yX7_years wsX7_years) := goodIn_app (goodIn_of _ (by decide +kernel)) ggL_law_X7_years
set_option maxRecDepth 20000 in
theorem ggL_law_X8_years : GoodIn wsL_law wsX8_years := goodIn_r _ [645, 430, 106, 107, 5, 108, 109, 110, 111, 112, 58, 512, 513, 514, 515, 516, 517, 518, 519, 77, 62, 63, 429, 66, 463, 464, 465, 466, 491, 492, 493, 1212, 1213, 1214, 1215, 1216, 1217, 1218, 1219, 1220, 1221, 1222, 1223, 1224, 1225, 1226, 1227, 1228, 1229, 1230, 1231, 1232, 1233, 1234, 1235, 1236, 1237, 1238, 1239, 1240] (by decide +kernel) (by decide +kernel)
set_option maxRecDepth 20000 in
theorem gL_law_X8_years : GoodIn wsL_law (wsV RL 60 RX8 yX8_years wsX8_years) := goodIn_app (goodIn_of _ (by decide +kernel)) ggL_law_X8_years
set_option maxRecDepth 20000 in
theorem ggL_law_X7_showsThen : GoodIn wsL_law wsX7_showsThen := goodIn_r _ [649, 15, 524, 296, 297, 14, 298, 122, 597, 598, 2, 599, 600, 601, 602, 82, 83, 84, 85, 31, 86, 87, 88, 89, 90, 91, 534, 535, 536, 537, 35, 36, 341, 342, 343, 344, 37, 121, 1204, 1205, 1206, 1207, 1208, 1209, 1210, 1211, 1241, 1242, 1243, 1244, 1245, 1246, 1247, 1248, 1249, 1250, 1251, 1252] (by decide +kernel) (by decide +kernel)
set_option maxRecDepth 20000 in
theorem gL_law_X7_showsThen : GoodIn wsL_law (wsV RL 61 RX7 yX7_showsThen wsX7_showsThen) := goodIn_app (goodIn_of _ (by decide +kernel)) ggL_law_X7_showsThen
set_option maxRecDepth 20000 in
theorem ggL_law_X8_showsThen : GoodIn wsL_law wsX8_showsThen := goodIn_r _ [653, 451, 452, 453, 5, 454, 77, 106, 107, 108, 109, 110, 111, 112, 58, 654, 655, 656, 657, 423, 424, 425, 426, 427, 428, 59, 60, 61, 62, 63, 64, 65, 66, 67, 429, 430, 431, 432, 433, 434, 72, 435, 436, 437, 438, 512, 513, 514, 515, 516, 517, 518, 519, 483, 484, 485, 486, 487, 488, 489, 490, 658, 659, 660, 661, 1212, 1213, 1214, 1215, 1216, 1217, 1218, 1219, 1220, 1221, 1222, 1223, 1224, 1225, 1226, 1227, 1228, 1229, 1230, 1231, 1232, 1233, 1234, 1235, 1236, 1237, 1238, 1239, 1240] (by decide +kernel) (by decide +kernel)
set_option maxRecDepth 20000 in
theorem gL_law_X8_showsThen : GoodIn wsL_law (wsV RL 64 RX8 yX8_showsThen wsX8_showsThen) := goodIn_app (goodIn_of _ (by decide +kernel)) ggL_law_X8_showsThen
set_option maxRecDepth 20000 in
theorem ggL_law_X7_groomThen : GoodIn wsL_law wsX7_groomThen := goodIn_r _ [665, 15, 551, 311, 312, 14, 313, 124, 597, 598, 2, 599, 600, 601, 602, 82, 83, 84, 85, 31, 86, 87, 88, 89, 90, 91, 666, 667, 668, 562, 563, 564, 565, 39, 337, 338, 339, 340, 40, 122, 35, 36, 329, 330, 331, 332, 123, 38, 327, 328, 341, 342, 343, 344, 37, 121, 566, 567, 568, 569, 345, 346, 347, 348, 349, 350, 351, 352, 353, 354, 355, 356, 357, 1204, 1205, 1206, 1207, 1208, 1209, 1210, 1211, 1241, 1242, 1243, 1244, 1245, 1246, 1247, 1248, 1249, 1250, 1251, 1252] (by decide +kernel) (by decide +kernel)
set_option maxRecDepth 20000 in
theorem gL_law_X7_groomThen : GoodIn wsL_law (wsV RL 65 RX7 yX7_groomThen wsX7_groomThen) := goodIn_app (goodIn_of _ (by decide +kernel)) ggL_law_X7_groomThen
set_option maxRecDepth 20000 in
theorem ggL_law_X8_groomThen : GoodIn wsL_law wsX8_groomThen := goodIn_r _ [672, 455, 456, 457, 5, 458, 429, 106, 107, 108, 420, 421, 422, 109, 110, 111, 112, 58, 654, 655, 656, 657, 423, 424, 425, 426, 427, 428, 59, 60, 61, 62, 63, 64, 65, 66, 67, 77, 430, 431, 432, 433, 434, 72, 435, 436, 437, 438, 512, 513, 514, 515, 516, 517, 518, 519, 475, 476, 477, 478, 479, 480, 481, 482, 483, 484, 485, 486, 487, 488, 489, 490, 471, 472, 473, 474, 491, 492, 493, 494, 495, 496, 497, 498, 499, 658, 659, 660, 661, 1212, 1213, 1214, 1215, 1216, 1217, 1218, 1219, 1220, 1221, 1222, 1223, 1224, 1225, 1226, 1227, 1228, 1229, 1230, 1231, 1232, 1233, 1234, 1235, 1236, 1237, 1238, 1239, 1240] (by decide +kernel) (by decide +kernel)
set_option maxRecDepth 20000 in
theorem gL_law_X8_groomThen : GoodIn wsL_law (wsV RL 68 RX8 yX8_groomThen wsX8_groomThen) := goodIn_app (goodIn_of _ (by decide +kernel)) ggL_law_X8_groomThen
set_option maxRecDepth 20000 in
theorem ggL_law_X7_known : GoodIn wsL_law wsX7_known := goodIn_r _ [676, 15, 666, 667, 2, 668, 82, 83, 84, 85, 31, 86, 87, 88, 89, 90, 91, 677, 678, 679, 14, 680, 124, 323, 324, 325, 326, 125, 327, 328, 681, 567, 568, 569, 39, 337, 338, 339, 340, 40, 122, 35, 36, 329, 330, 331, 332, 123, 38, 341, 342, 343, 344, 37, 121, 345, 346, 347, 348, 349, 350, 351, 352, 353, 354, 355, 356, 357, 641, 1204, 1205, 1206, 1207, 1208, 1209, 1210, 1211, 1241, 1242, 1243, 1244, 1245, 1246, 1247, 1248, 1249, 1250, 1251, 1252] (by decide +kernel) (by decide +kernel)
set_option maxRecDepth 20000 in
theorem gL_law_X7_known : GoodIn wsL_law (wsV RL 69 RX7 yX7_known wsX7_known) := goodIn_app (goodIn_of _ (by decide +kernel)) ggL_law_X7_known
set_option maxRecDepth 20000 in
theorem ggL_law_X8_known : GoodIn wsL_law wsX8_known := goodIn_r _ [685, 420, 421, 5, 422, 109, 110, 111, 112, 58, 686, 687, 688, 689, 429, 67, 471, 472, 473, 474, 475, 476, 477, 478, 64, 65, 479, 480, 481, 482, 77, 62, 483, 484, 485, 486, 61, 60, 430, 59, 487, 488, 489, 490, 491, 492, 493, 494, 495, 496, 497, 498, 499, 463, 464, 465, 466, 1212, 1213, 1214, 1215, 1216, 1217, 1218, 1219, 1220, 1221, 1222, 1223, 1224, 1225, 1226, 1227, 1228, 1229, 1230, 1231, 1232, 1233, 1234, 1235, 1236, 1237, 1238, 1239, 1240] (by decide +kernel) (by decide +kernel)
set_option maxRecDepth 20000 in
theorem gL_law_X8_known : GoodIn wsL_law (wsV RL 72 RX8 yX8_known wsX8_known) := goodIn_app (goodIn_of _ (by decide +kernel)) ggL_law_X8_known
set_option maxRecDepth 20000 in
theorem ggL_law_X7_when : GoodIn wsL_law wsX7_when := goodIn_r _ [693, 15, 551, 311, 312, 14, 313, 124, 82, 83, 84, 2, 85, 31, 86, 87, 88, 89, 90, 91, 566, 567, 568, 569, 39, 337, 338, 339, 340, 40, 122, 35, 36, 329, 330, 331, 332, 123, 38, 327, 328, 341, 342, 343, 344, 37, 121, 345, 346, 347, 348, 349, 350, 351, 352, 353, 354, 355, 356, 357, 1204, 1205, 1206, 1207, 1208, 1209, 1210, 1211, 1241, 1242, 1243, 1244, 1245, 1246, 1247, 1248, 1249, 1250, 1251, 1252] (by decide +kernel) (by decide +kernel)
set_option maxRecDepth 20000 in
theorem gL_law_X7_when : GoodIn wsL_law (wsV RL 73 RX7 yX7_when wsX7_when) := goodIn_app (goodIn_of _ (by decide +kernel)) ggL_law_X7_when
set_option maxRecDepth 20000 in
theorem ggL_law_X8_when : GoodIn wsL_law wsX8_when := goodIn_r _ [697, 455, 456, 457, 5, 458, 429, 109, 110, 111, 112, 58, 654, 655, 656, 657, 423, 424, 425, 426, 427, 428, 59, 60, 61, 62, 63, 64, 65, 66, 67, 77, 430, 431, 432, 433, 434, 72, 435, 436, 437, 438, 471, 472, 473, 474, 475, 476, 477, 478, 479, 480, 481, 482, 483, 484, 485, 486, 487, 488, 489, 490, 491, 492, 493, 494, 495, 496, 497, 498, 499, 516, 517, 518, 519, 658, 659, 660, 661, 1212, 1213, 1214, 1215, 1216, 1217, 1218, 1219, 1220, 1221, 1222, 1223, 1224, 1225, 1226, 1227, 1228, 1229, 1230, 1231, 1232, 1233, 1234, 1235, 1236, 1237, 1238, 1239, 1240] (by decide +kernel) (by decide +kernel)
set_option maxRecDepth 20000 in
theorem gL_law_X8_when : GoodIn wsL_law (wsV RL 76 RX8 yX8_when wsX8_when) := goodIn_app (goodIn_of _ (by decide +kernel)) ggL_law_X8_when
set_option maxRecDepth 20000 in
theorem ggL_law_X7_takes : GoodIn wsL_law wsX7_takes := goodIn_r _ [701, 15, 551, 311, 312, 14, 313, 124, 82, 83, 84, 2, 85, 31, 86, 87, 88, 89, 90, 91, 560, 383, 384, 385, 41, 702, 703, 704, 705, 706, 563, 564, 565, 39, 337, 338, 339, 340, 40, 122, 35, 36, 329, 330, 331, 332, 123, 38, 327, 328, 341, 342, 343, 344, 37, 121, 707, 319, 320, 321, 322, 323, 324, 325, 326, 125, 345, 346, 347, 348, 349, 350, 351, 352, 353, 354, 355, 356, 357, 358, 359, 360, 361, 362, 363, 364, 365, 1204, 1205, 1206, 1207, 1208, 1209, 1210, 1211, 1241, 1242, 1243, 1244, 1245, 1246, 1247, 1248, 1249, 1250, 1251, 1252] (by decide +kernel) (by decide +kernel)
set_option maxRecDepth 20000 in
theorem gL_law_X7_takes : GoodIn wsL_law (wsV RL 77 RX7 yX7_takes wsX7_takes) := goodIn_app (goodIn_of _ (by decide +kernel)) ggL_law_X7_takes
set_option maxRecDepth 20000 in
theorem ggL_law_X8_takes : GoodIn wsL_law wsX8_takes := goodIn_r _ [711, 66, 455, 456, 457, 5, 458, 429, 109, 110, 111, 112, 58, 459, 460, 461, 462, 67, 463, 464, 465, 466, 77, 62, 471, 472, 473, 474, 475, 476, 477, 478, 64, 65, 479, 480, 481, 482, 483, 484, 485, 486, 61, 60, 430, 59, 487, 488, 489, 490, 491, 492, 493, 494, 495, 496, 497, 498, 499, 504, 505, 506, 507, 1212, 1213, 1214, 1215, 1216, 1217, 1218, 1219, 1220, 1221, 1222, 1223, 1224, 1225, 1226, 1227, 1228, 1229, 1230, 1231, 1232, 1233, 1234, 1235, 1236, 1237, 1238, 1239, 1240] (by decide +kernel) (by decide +kernel)
set_option maxRecDepth 20000 in
theorem gL_law_X8_takes : GoodIn wsL_law (wsV RL 80 RX8 yX8_takes wsX8_takes) := goodIn_app (goodIn_of _ (by decide +kernel)) ggL_law_X8_takes
set_option maxRecDepth 20000 in
theorem ggL_law_X7_hide : GoodIn wsL_law wsX7_hide := goodIn_r _ [715, 15, 16, 524, 296, 297, 14, 298, 122, 82, 83, 84, 2, 85, 31, 86, 87, 88, 89, 90, 91, 716, 717, 718, 719, 720, 540, 541, 542, 123, 38, 327, 328, 721, 722, 723, 724, 725, 118, 119, 120, 121, 35, 36, 37, 124, 39, 40, 41, 125, 126, 127, 726, 300, 301, 302, 303, 304, 305, 306, 727, 678, 679, 680, 323, 324, 325, 326, 681, 567, 568, 569, 337, 338, 339, 340, 329, 330, 331, 332, 341, 342, 343, 344, 345, 346, 347, 348, 349, 350, 351, 352, 353, 354, 355, 356, 357, 1204, 1205, 1206, 1207, 1208, 1209, 1210, 1211, 1241, 1242, 1243, 1244, 1245, 1246, 1247, 1248, 1249, 1250, 1251, 1252] (by decide +kernel) (by decide +kernel)
set_option maxRecDepth 20000 in
theorem gL_law_X7_hide : GoodIn wsL_law (wsV RL 81 RX7 yX7_hide wsX7_hide) := goodIn_app (goodIn_of _ (by decide +kernel)) ggL_law_X7_hide
set_option maxRecDepth 20000 in
theorem ggL_law_X8_hide : GoodIn wsL_law wsX8_hide := goodIn_r _ [731, 62, 61, 451, 452, 453, 5, 454, 77, 109, 110, 111, 112, 58, 686, 687, 688, 689, 429, 67, 471, 472, 473, 474, 475, 476, 477, 478, 64, 65, 479, 480, 481, 482, 483, 484, 485, 486, 60, 430, 59, 487, 488, 489, 490, 491, 492, 493, 494, 495, 496, 497, 498, 499, 1212, 1213, 1214, 1215, 1216, 1217, 1218, 1219, 1220, 1221, 1222, 1223, 1224, 1225, 1226, 1227, 1228, 1229, 1230, 1231, 1232, 1233, 1234, 1235, 1236, 1237, 1238, 1239, 1240] (by decide +kernel) (by decide +kernel)
set_option maxRecDepth 20000 in
theorem gL_law_X8_hide : GoodIn wsL_law (wsV RL 84 RX8 yX8_hide wsX8_hide) := goodIn_app (goodIn_of _ (by decide +kernel)) ggL_law_X8_hide
set_option maxRecDepth 20000 in
theorem ggL_law_X7_forget : GoodIn wsL_law wsX7_forget := goodIn_r _ [735, 15, 551, 311, 312, 14, 313, 124, 82, 83, 84, 2, 85, 31, 86, 87, 88, 89, 90, 91, 561, 324, 325, 326, 125, 327, 328, 736, 737, 723, 738, 739, 553, 554, 555, 39, 740, 338, 339, 340, 40, 122, 35, 36, 329, 330, 331, 332, 123, 38, 341, 342, 343, 344, 37, 121, 345, 346, 347, 348, 349, 350, 351, 352, 353, 354, 355, 356, 357, 1204, 1205, 1206, 1207, 1208, 1209, 1210, 1211, 1241, 1242, 1243, 1244, 1245, 1246, 1247, 1248, 1249, 1250, 1251, 1252] (by decide +kernel) (by decide +kernel)
set_option maxRecDepth 20000 in
theorem gL_law_X7_forget : GoodIn wsL_law (wsV RL 85 RX7 yX7_forget wsX7_forget) := goodIn_app (goodIn_of _ (by decide +kernel)) ggL_law_X7_forget
set_option maxRecDepth 20000 in
theorem ggL_law_X8_forget : GoodIn wsL_law wsX8_forget := goodIn_r _ [744, 67, 64, 65, 455, 456, 457, 5, 458, 429, 109, 110, 111, 112, 58, 491, 492, 493, 479, 480, 481, 482, 77, 62, 483, 484, 485, 486, 61, 60, 430, 59, 487, 488, 489, 490, 1212, 1213, 1214, 1215, 1216, 1217, 1218, 1219, 1220, 1221, 1222, 1223, 1224, 1225, 1226, 1227, 1228, 1229, 1230, 1231, 1232, 1233, 1234, 1235, 1236, 1237, 1238, 1239, 1240] (by decide +kernel) (by decide +kernel)
set_option maxRecDepth 20000 in
theorem gL_law_X8_forget : GoodIn wsL_law (wsV RL 88 RX8 yX8_forget wsX8_forget) := goodIn_app (goodIn_of _ (by decide +kernel)) ggL_law_X8_forget
set_option maxRecDepth 20000 in
theorem ggL_law_X7_drink : GoodIn wsL_law wsX7_drink := goodIn_r _ [748, 15, 551, 311, 312, 14, 313, 124, 524, 296, 297, 298, 122, 82, 83, 84, 2, 85, 31, 86, 87, 88, 89, 90, 91, 702, 703, 704, 705, 706, 563, 564, 565, 39, 337, 338, 339, 340, 40, 35, 36, 329, 330, 331, 332, 123, 38, 327, 328, 341, 342, 343, 344, 37, 121, 707, 319, 320, 321, 322, 323, 324, 325, 326, 125, 345, 346, 347, 348, 349, 350, 351, 352, 353, 354, 355, 356, 357, 358, 359, 360, 361, 362, 363, 364, 365, 1204, 1205, 1206, 1207, 1208, 1209, 1210, 1211, 1241, 1242, 1243, 1244, 1245, 1246, 1247, 1248, 1249, 1250, 1251, 1252] (by decide +kernel) (by decide +kernel)
set_option maxRecDepth 20000 in
theorem gL_law_X7_drink : GoodIn wsL_law (wsV RL 89 RX7 yX7_drink wsX7_drink) := goodIn_app (goodIn_of _ (by decide +kernel)) ggL_law_X7_drink
set_option maxRecDepth 20000 in
theorem ggL_law_X8_drink : GoodIn wsL_law wsX8_drink := goodIn_r _ [752, 455, 456, 457, 5, 458, 429, 451, 452, 453, 454, 77, 109, 110, 111, 112, 58, 459, 460, 461, 462, 67, 463, 464, 465, 466, 62, 471, 472, 473, 474, 475, 476, 477, 478, 64, 65, 479, 480, 481, 482, 483, 484, 485, 486, 61, 60, 430, 59, 487, 488, 489, 490, 491, 492, 493, 494, 495, 496, 497, 498, 499, 504, 505, 506, 507, 1212, 1213, 1214, 1215, 1216, 1217, 1218, 1219, 1220, 1221, 1222, 1223, 1224, 1225, 1226, 1227, 1228, 1229, 1230, 1231, 1232, 1233, 1234, 1235, 1236, 1237, 1238, 1239, 1240] (by decide +kernel) (by decide +kernel)
set_option maxRecDepth 20000 in
theorem gL_law_X8_drink : GoodIn wsL_law (wsV RL 92 RX8 yX8_drink wsX8_drink) := goodIn_app (goodIn_of _ (by decide +kernel)) ggL_law_X8_drink
set_option maxRecDepth 20000 in
theorem ggL_law_X7_away : GoodIn wsL_law wsX7_away := goodIn_r _ [756, 15, 16, 757, 758, 723, 759, 760, 727, 678, 679, 14, 680, 124, 323, 324, 325, 326, 125, 327, 2, 328, 681, 567, 568, 569, 39, 87, 88, 337, 338, 339, 340, 40, 122, 35, 36, 329, 330, 331, 332, 123, 38, 341, 342, 343, 344, 37, 121, 345, 346, 347, 348, 349, 350, 351, 352, 353, 354, 355, 356, 357, 761, 762, 717, 718, 719, 720, 540, 541, 542, 725, 118, 119, 120, 41, 126, 127, 763, 764, 765, 766, 90, 91, 1204, 1205, 1206, 1207, 1208, 1209, 1210, 1211, 1241, 1242, 1243, 1244, 1245, 1246, 1247, 1248, 1249, 1250, 1251, 1252] (by decide +kernel) (by decide +kernel)
set_option maxRecDepth 20000 in
theorem gL_law_X7_away : GoodIn wsL_law (wsV RL 93 RX7 yX7_away wsX7_away) := goodIn_app (goodIn_of _ (by decide +kernel)) ggL_law_X7_away
