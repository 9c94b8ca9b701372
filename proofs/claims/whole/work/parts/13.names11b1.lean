set_option maxRecDepth 20000 in
theorem ggL_law_X7_root : GoodIn wsL_law wsX7_root := goodIn_r _ [413, 207, 208, 5, 209, 210, 211, 212, 213, 214, 215, 216, 217, 414, 415, 416, 417, 84, 218, 219, 220, 221, 222, 87, 1141, 1142, 1143, 1144, 1145, 1146, 1147, 1148, 1149, 1150, 1151, 1152, 1153, 1154, 1155, 1156] (by decide +kernel) (by decide +kernel)
set_option maxRecDepth 20000 in
theorem gL_law_X7_root : GoodIn wsL_law (wsV RL 109 RX7 yX7_root wsX7_root) := goodIn_app (goodIn_of _ (by decide +kernel)) ggL_law_X7_root
set_option maxRecDepth 20000 in
theorem ggL_law_L_trap : GoodIn wsL_law wsL_trap := goodIn_ca (goodIn_ca (goodIn_ca (goodIn_r _ [420, 97, 273, 98, 421, 422, 423, 2, 424, 278, 279, 103, 104, 19, 425, 107, 108, 109, 110, 111, 112, 113, 114, 115, 116, 117, 22, 118, 119, 120, 18, 121, 46, 122, 123, 124, 125, 47, 48, 49, 51, 126, 53, 54, 127, 128, 129, 130, 131, 132, 133, 134, 15, 135, 136, 137, 39, 138, 40, 139, 140, 141, 57, 142, 143, 63, 144, 145, 61, 146, 62, 426, 427, 428, 429, 1132, 1133, 1134, 1135, 1136, 1137, 1138, 1139, 1140, 1161, 1162, 1163, 1164, 1165, 1166, 1167, 1168, 1169, 1170, 1171, 1172, 1173, 1174, 1157, 1158, 1159, 1160, 1183, 1184, 1185, 1186, 1187, 1188, 1189] (by decide +kernel) (by decide +kernel)) (goodIn_sub (fun _ h => List.mem_append_right _ h) (by decide +kernel))) (goodIn_sub (fun _ h => List.mem_append_left _ (List.mem_append_left _ (List.mem_append_right _ h))) (by decide +kernel))) (goodIn_sub (fun _ h => List.mem_append_left _ (List.mem_append_right _ h)) (by decide +kernel))
set_option maxRecDepth 20000 in
theorem gL_law_L_trap : GoodIn wsL_law (va_wsS RL 110 yL_trap wsL_trap) := goodIn_app (goodIn_of _ (by decide +kernel)) ggL_law_L_trap
set_option maxRecDepth 20000 in
theorem ggL_law_X7_trap : GoodIn wsL_law wsX7_trap := goodIn_r _ [433, 84, 207, 208, 5, 209, 210, 211, 212, 213, 214, 215, 216, 217, 414, 415, 416, 417, 218, 219, 220, 221, 222, 87, 434, 435, 436, 437, 1141, 1142, 1143, 1144, 1145, 1146, 1147, 1148, 1149, 1150, 1151, 1152, 1153, 1154, 1155, 1156] (by decide +kernel) (by decide +kernel)
set_option maxRecDepth 20000 in
theorem gL_law_X7_trap : GoodIn wsL_law (wsV RL 112 RX7 yX7_trap wsX7_trap) := goodIn_app (goodIn_of _ (by decide +kernel)) ggL_law_X7_trap
set_option maxRecDepth 20000 in
theorem ggL_law_L_dig : GoodIn wsL_law wsL_dig := goodIn_ca (goodIn_r _ [440, 97, 441, 442, 443, 2, 444, 19, 107, 108, 109, 110, 111, 112, 113, 114, 115, 116, 117, 22, 118, 119, 120, 18, 121, 46, 122, 123, 124, 125, 47, 48, 49, 51, 126, 53, 54, 127, 128, 129, 130, 131, 132, 133, 134, 15, 135, 136, 137, 39, 138, 40, 139, 140, 141, 57, 142, 143, 63, 144, 145, 61, 146, 62, 445, 446, 447, 448, 338, 339, 340, 341, 357, 358, 359, 360, 449, 450, 451, 452, 163, 55, 164, 165, 166, 167, 168, 169, 170, 171, 172, 173, 174, 175, 176, 177, 178, 179, 180, 181, 182, 183, 184, 185, 186, 453, 454, 455, 456, 457, 152, 191, 192, 193, 194, 199, 200, 201, 202, 154, 155, 156, 157, 158, 159, 160, 161, 162, 187, 188, 189, 190, 195, 196, 197, 198, 1132, 1133, 1134, 1135, 1136, 1137, 1138, 1139, 1140, 1161, 1162, 1163, 1164, 1165, 1166, 1167, 1168, 1169, 1170, 1171, 1172, 1173, 1174, 1157, 1158, 1159, 1160, 1183, 1184, 1185, 1186, 1187, 1188, 1189] (by decide +kernel) (by decide +kernel)) (goodIn_sub (fun _ h => List.mem_append_left _ (List.mem_append_right _ h)) (by decide +kernel))
set_option maxRecDepth 20000 in
theorem gL_law_L_dig : GoodIn wsL_law (va_wsS RL 113 yL_dig wsL_dig) := goodIn_app (goodIn_of _ (by decide +kernel)) ggL_law_L_dig
set_option maxRecDepth 20000 in
theorem ggL_law_X7_dig : GoodIn wsL_law wsX7_dig := goodIn_r _ [461, 207, 208, 5, 209, 210, 211, 212, 213, 214, 215, 216, 217, 218, 219, 220, 221, 222, 87, 84, 462, 463, 464, 465, 255, 256, 257, 395, 396, 397, 398, 466, 467, 468, 469, 235, 236, 237, 238, 239, 240, 241, 242, 243, 244, 245, 246, 247, 248, 249, 250, 251, 252, 253, 254, 223, 224, 225, 226, 227, 228, 229, 230, 231, 232, 233, 234, 258, 259, 260, 261, 262, 263, 264, 265, 1141, 1142, 1143, 1144, 1145, 1146, 1147, 1148, 1149, 1150, 1151, 1152, 1153, 1154, 1155, 1156] (by decide +kernel) (by decide +kernel)
set_option maxRecDepth 20000 in
theorem gL_law_X7_dig : GoodIn wsL_law (wsV RL 115 RX7 yX7_dig wsX7_dig) := goodIn_app (goodIn_of _ (by decide +kernel)) ggL_law_X7_dig
set_option maxRecDepth 20000 in
theorem ggL_law_L_rake : GoodIn wsL_law wsL_rake := goodIn_ca (goodIn_ca (goodIn_r _ [472, 97, 98, 473, 474, 475, 2, 476, 103, 104, 19, 477, 107, 108, 109, 110, 111, 112, 478, 479, 480, 18, 481, 126, 53, 158, 113, 114, 115, 116, 117, 22, 118, 119, 120, 121, 46, 122, 123, 124, 125, 47, 48, 49, 51, 54, 127, 128, 129, 130, 131, 132, 133, 134, 15, 135, 136, 137, 39, 138, 40, 139, 140, 141, 57, 142, 143, 63, 144, 145, 61, 146, 62, 482, 483, 484, 485, 163, 486, 487, 488, 489, 490, 491, 492, 493, 494, 495, 496, 497, 498, 499, 500, 501, 173, 174, 175, 176, 177, 178, 179, 180, 502, 503, 504, 505, 506, 507, 508, 509, 510, 511, 512, 513, 55, 164, 165, 166, 167, 168, 514, 515, 516, 517, 518, 519, 520, 521, 522, 523, 524, 525, 526, 527, 528, 529, 530, 531, 532, 181, 182, 183, 184, 185, 186, 449, 450, 451, 452, 169, 170, 171, 172, 1132, 1133, 1134, 1135, 1136, 1137, 1138, 1139, 1140, 1161, 1162, 1163, 1164, 1165, 1166, 1167, 1168, 1169, 1170, 1171, 1172, 1173, 1174, 1183, 1184, 1185, 1186, 1187, 1188, 1189, 1157, 1158, 1159, 1160] (by decide +kernel) (by decide +kernel)) (goodIn_sub (fun _ h => List.mem_append_left _ (List.mem_append_left _ (List.mem_append_right _ h))) (by decide +kernel))) (goodIn_sub (fun _ h => List.mem_append_left _ (List.mem_append_right _ h)) (by decide +kernel))
set_option maxRecDepth 20000 in
theorem gL_law_L_rake : GoodIn wsL_law (va_wsS RL 116 yL_rake wsL_rake) := goodIn_app (goodIn_of _ (by decide +kernel)) ggL_law_L_rake
set_option maxRecDepth 20000 in
theorem ggL_law_X7_rake : GoodIn wsL_law wsX7_rake := goodIn_r _ [536, 84, 207, 208, 5, 209, 210, 211, 212, 223, 224, 225, 226, 537, 538, 539, 540, 255, 256, 257, 213, 214, 215, 216, 217, 218, 219, 220, 221, 222, 87, 541, 542, 543, 544, 545, 546, 547, 548, 243, 244, 245, 246, 235, 236, 237, 238, 549, 550, 551, 552, 553, 554, 555, 556, 557, 558, 559, 560, 89, 247, 248, 249, 250, 466, 467, 468, 469, 239, 240, 241, 242, 1141, 1142, 1143, 1144, 1145, 1146, 1147, 1148, 1149, 1150, 1151, 1152, 1153, 1154, 1155, 1156] (by decide +kernel) (by decide +kernel)
set_option maxRecDepth 20000 in
theorem gL_law_X7_rake : GoodIn wsL_law (wsV RL 118 RX7 yX7_rake wsX7_rake) := goodIn_app (goodIn_of _ (by decide +kernel)) ggL_law_X7_rake
set_option maxRecDepth 20000 in
theorem ggL_law_L_set : GoodIn wsL_law wsL_set := goodIn_ca (goodIn_r _ [563, 273, 564, 565, 566, 2, 567, 278, 279, 19, 568, 113, 114, 115, 116, 117, 22, 118, 119, 120, 18, 121, 46, 122, 123, 124, 125, 47, 48, 49, 51, 126, 53, 54, 127, 128, 129, 130, 131, 132, 133, 134, 15, 135, 136, 137, 39, 138, 40, 139, 140, 141, 57, 142, 143, 63, 144, 145, 61, 146, 62, 569, 570, 571, 572, 152, 573, 574, 575, 576, 1132, 1133, 1134, 1135, 1136, 1137, 1138, 1139, 1140, 1161, 1162, 1163, 1164, 1165, 1166, 1167, 1168, 1169, 1170, 1171, 1172, 1173, 1174, 1157, 1158, 1159, 1160, 1183, 1184, 1185, 1186, 1187, 1188, 1189] (by decide +kernel) (by decide +kernel)) (goodIn_sub (fun _ h => List.mem_append_right _ h) (by decide +kernel))
set_option maxRecDepth 20000 in
theorem gL_law_L_set : GoodIn wsL_law (va_wsS RL 119 yL_set wsL_set) := goodIn_app (goodIn_of _ (by decide +kernel)) ggL_law_L_set
set_option maxRecDepth 20000 in
theorem ggL_law_X7_set : GoodIn wsL_law wsX7_set := goodIn_r _ [580, 84, 210, 211, 5, 212, 213, 214, 215, 216, 217, 414, 415, 416, 417, 218, 219, 220, 221, 222, 87, 255, 256, 257, 1141, 1142, 1143, 1144, 1145, 1146, 1147, 1148, 1149, 1150, 1151, 1152, 1153, 1154, 1155, 1156] (by decide +kernel) (by decide +kernel)
set_option maxRecDepth 20000 in
theorem gL_law_X7_set : GoodIn wsL_law (wsV RL 121 RX7 yX7_set wsX7_set) := goodIn_app (goodIn_of _ (by decide +kernel)) ggL_law_X7_set
set_option maxRecDepth 20000 in
theorem ggL_law_L_append : GoodIn wsL_law wsL_append := goodIn_ca (goodIn_ca (goodIn_r _ [583, 273, 98, 584, 585, 586, 2, 587, 278, 279, 103, 104, 26, 588, 589, 590, 591, 25, 592, 593, 67, 1132, 1133, 1134, 1135, 1136, 1137, 1138, 1139, 1140, 1175, 1176] (by decide +kernel) (by decide +kernel)) (goodIn_sub (fun _ h => List.mem_append_right _ h) (by decide +kernel))) (goodIn_sub (fun _ h => List.mem_append_left _ (List.mem_append_left _ (List.mem_append_right _ h))) (by decide +kernel))
set_option maxRecDepth 20000 in
theorem gL_law_L_append : GoodIn wsL_law (va_wsS RL 122 yL_append wsL_append) := goodIn_app (goodIn_of _ (by decide +kernel)) ggL_law_L_append
set_option maxRecDepth 20000 in
theorem ggL_law_X7_append : GoodIn wsL_law wsX7_append := goodIn_r _ [597, 598, 88, 210, 211, 5, 212, 213, 214, 215, 216, 217, 1141, 1142, 1143, 1144, 1145, 1146, 1147, 1148, 1149, 1150, 1151, 1152, 1153, 1154, 1155, 1156] (by decide +kernel) (by decide +kernel)
set_option maxRecDepth 20000 in
theorem gL_law_X7_append : GoodIn wsL_law (wsV RL 124 RX7 yX7_append wsX7_append) := goodIn_app (goodIn_of _ (by decide +kernel)) ggL_law_X7_append
set_option maxRecDepth 20000 in
theorem ggL_law_X6_clearBuffer : GoodIn wsL_law wsX6_clearBuffer := goodIn_r _ [602, 26, 588, 1132, 1133, 1134, 1135, 1136, 1137, 1138, 1139, 1140, 1175, 1176] (by decide +kernel) (by decide +kernel)
set_option maxRecDepth 20000 in
theorem gL_law_X6_clearBuffer : GoodIn wsL_law (wsV RL 125 RX6 yX6_clearBuffer wsX6_clearBuffer) := goodIn_app (goodIn_of _ (by decide +kernel)) ggL_law_X6_clearBuffer
