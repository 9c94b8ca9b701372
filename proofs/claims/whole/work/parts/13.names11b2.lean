set_option maxRecDepth 20000 in
theorem ggL_law_X7_clearBuffer : GoodIn wsL_law wsX7_clearBuffer := goodIn_r _ [606, 217, 598, 1141, 1142, 1143, 1144, 1145, 1146, 1147, 1148, 1149, 1150, 1151, 1152, 1153, 1154, 1155, 1156] (by decide +kernel) (by decide +kernel)
set_option maxRecDepth 20000 in
theorem gL_law_X7_clearBuffer : GoodIn wsL_law (wsV RL 128 RX7 yX7_clearBuffer wsX7_clearBuffer) := goodIn_app (goodIn_of _ (by decide +kernel)) ggL_law_X7_clearBuffer
set_option maxRecDepth 20000 in
theorem ggL_law_X6_firstError : GoodIn wsL_law wsX6_firstError := goodIn_r _ [610, 26, 611, 612, 613, 25, 614, 593, 67, 615, 616, 617, 618, 619, 620, 1132, 1133, 1134, 1135, 1136, 1137, 1138, 1139, 1140, 1175, 1176] (by decide +kernel) (by decide +kernel)
set_option maxRecDepth 20000 in
theorem gL_law_X6_firstError : GoodIn wsL_law (wsV RL 129 RX6 yX6_firstError wsX6_firstError) := goodIn_app (goodIn_of _ (by decide +kernel)) ggL_law_X6_firstError
set_option maxRecDepth 20000 in
theorem ggL_law_X7_firstError : GoodIn wsL_law wsX7_firstError := goodIn_r _ [624, 217, 625, 626, 598, 627, 628, 629, 5, 630, 88, 631, 632, 633, 634, 210, 211, 212, 635, 636, 637, 638, 639, 640, 641, 298, 299, 300, 301, 84, 294, 295, 296, 297, 255, 256, 257, 1141, 1142, 1143, 1144, 1145, 1146, 1147, 1148, 1149, 1150, 1151, 1152, 1153, 1154, 1155, 1156] (by decide +kernel) (by decide +kernel)
set_option maxRecDepth 20000 in
theorem gL_law_X7_firstError : GoodIn wsL_law (wsV RL 132 RX7 yX7_firstError wsX7_firstError) := goodIn_app (goodIn_of _ (by decide +kernel)) ggL_law_X7_firstError
set_option maxRecDepth 20000 in
theorem ggL_law_L_plans : GoodIn wsL_law wsL_plans := goodIn_ca (goodIn_r _ [644, 273, 645, 646, 647, 2, 648, 278, 279, 26, 588, 649, 19, 280, 650, 651, 652, 25, 653, 593, 67, 615, 616, 617, 618, 619, 620, 113, 114, 115, 116, 117, 22, 118, 119, 120, 18, 121, 46, 122, 123, 124, 125, 47, 48, 49, 51, 126, 53, 54, 127, 128, 129, 130, 131, 132, 133, 134, 15, 135, 136, 137, 39, 138, 40, 139, 140, 141, 57, 142, 143, 63, 144, 145, 61, 146, 62, 654, 655, 656, 657, 658, 151, 286, 287, 288, 289, 1132, 1133, 1134, 1135, 1136, 1137, 1138, 1139, 1140, 1175, 1176, 1161, 1162, 1163, 1164, 1165, 1166, 1167, 1168, 1169, 1170, 1171, 1172, 1173, 1174, 1157, 1158, 1159, 1160, 1183, 1184, 1185, 1186, 1187, 1188, 1189] (by decide +kernel) (by decide +kernel)) (goodIn_sub (fun _ h => List.mem_append_right _ h) (by decide +kernel))
set_option maxRecDepth 20000 in
theorem gL_law_L_plans : GoodIn wsL_law (va_wsS RL 133 yL_plans wsL_plans) := goodIn_app (goodIn_of _ (by decide +kernel)) ggL_law_L_plans
set_option maxRecDepth 20000 in
theorem ggL_law_X7_plans : GoodIn wsL_law wsX7_plans := goodIn_r _ [662, 625, 598, 627, 628, 629, 5, 630, 626, 88, 631, 632, 633, 634, 210, 211, 212, 635, 636, 637, 638, 639, 640, 641, 298, 299, 300, 301, 84, 294, 295, 296, 297, 255, 256, 257, 213, 214, 215, 216, 217, 218, 219, 220, 221, 222, 87, 1141, 1142, 1143, 1144, 1145, 1146, 1147, 1148, 1149, 1150, 1151, 1152, 1153, 1154, 1155, 1156] (by decide +kernel) (by decide +kernel)
set_option maxRecDepth 20000 in
theorem gL_law_X7_plans : GoodIn wsL_law (wsV RL 136 RX7 yX7_plans wsX7_plans) := goodIn_app (goodIn_of _ (by decide +kernel)) ggL_law_X7_plans
set_option maxRecDepth 20000 in
theorem ggL_law_L_undo : GoodIn wsL_law wsL_undo := goodIn_ca (goodIn_r _ [665, 98, 666, 667, 668, 2, 669, 103, 104, 117, 19, 22, 118, 119, 120, 18, 121, 46, 122, 123, 124, 125, 47, 48, 49, 51, 126, 53, 54, 127, 128, 129, 130, 131, 132, 133, 134, 15, 135, 136, 137, 39, 138, 40, 139, 140, 141, 57, 142, 143, 63, 144, 145, 61, 146, 62, 1132, 1133, 1134, 1135, 1136, 1137, 1138, 1139, 1140, 1161, 1162, 1163, 1164, 1165, 1166, 1167, 1168, 1169, 1170, 1171, 1172, 1173, 1174, 1157, 1158, 1159, 1160, 1183, 1184, 1185, 1186, 1187, 1188, 1189] (by decide +kernel) (by decide +kernel)) (goodIn_sub (fun _ h => List.mem_append_left _ (List.mem_append_left _ (List.mem_append_right _ h))) (by decide +kernel))
set_option maxRecDepth 20000 in
theorem gL_law_L_undo : GoodIn wsL_law (va_wsS RL 137 yL_undo wsL_undo) := goodIn_app (goodIn_of _ (by decide +kernel)) ggL_law_L_undo
set_option maxRecDepth 20000 in
theorem ggL_law_X7_undo : GoodIn wsL_law wsX7_undo := goodIn_r _ [673, 222, 84, 87, 213, 214, 215, 5, 216, 217, 1141, 1142, 1143, 1144, 1145, 1146, 1147, 1148, 1149, 1150, 1151, 1152, 1153, 1154, 1155, 1156] (by decide +kernel) (by decide +kernel)
set_option maxRecDepth 20000 in
theorem gL_law_X7_undo : GoodIn wsL_law (wsV RL 139 RX7 yX7_undo wsX7_undo) := goodIn_app (goodIn_of _ (by decide +kernel)) ggL_law_X7_undo
set_option maxRecDepth 20000 in
theorem ggL_law_X6_keep : GoodIn wsL_law wsX6_keep := goodIn_r _ [677, 20, 19, 678, 679, 680, 118, 119, 120, 18, 121, 46, 122, 123, 124, 125, 47, 48, 49, 51, 126, 53, 54, 127, 128, 129, 130, 131, 132, 133, 134, 15, 135, 136, 137, 39, 138, 40, 139, 140, 141, 57, 142, 143, 63, 144, 145, 61, 146, 62, 1132, 1133, 1134, 1135, 1136, 1137, 1138, 1139, 1140, 1161, 1162, 1163, 1164, 1165, 1166, 1167, 1168, 1169, 1170, 1171, 1172, 1173, 1174, 1157, 1158, 1159, 1160, 1183, 1184, 1185, 1186, 1187, 1188, 1189] (by decide +kernel) (by decide +kernel)
set_option maxRecDepth 20000 in
theorem gL_law_X6_keep : GoodIn wsL_law (wsV RL 140 RX6 yX6_keep wsX6_keep) := goodIn_app (goodIn_of _ (by decide +kernel)) ggL_law_X6_keep
set_option maxRecDepth 20000 in
theorem ggL_law_X7_keep : GoodIn wsL_law wsX7_keep := goodIn_r _ [684, 217, 86, 84, 685, 686, 687, 688, 5, 689, 1141, 1142, 1143, 1144, 1145, 1146, 1147, 1148, 1149, 1150, 1151, 1152, 1153, 1154, 1155, 1156] (by decide +kernel) (by decide +kernel)
set_option maxRecDepth 20000 in
theorem gL_law_X7_keep : GoodIn wsL_law (wsV RL 143 RX7 yX7_keep wsX7_keep) := goodIn_app (goodIn_of _ (by decide +kernel)) ggL_law_X7_keep
set_option maxRecDepth 20000 in
theorem ggL_law_L_restore : GoodIn wsL_law wsL_restore := goodIn_ca (goodIn_r _ [692, 98, 693, 694, 695, 2, 696, 103, 104, 678, 19, 20, 679, 680, 113, 114, 115, 116, 117, 22, 118, 119, 120, 18, 121, 46, 122, 123, 124, 125, 47, 48, 49, 51, 126, 53, 54, 127, 128, 129, 130, 131, 132, 133, 134, 15, 135, 136, 137, 39, 138, 40, 139, 140, 141, 57, 142, 143, 63, 144, 145, 61, 146, 62, 1132, 1133, 1134, 1135, 1136, 1137, 1138, 1139, 1140, 1161, 1162, 1163, 1164, 1165, 1166, 1167, 1168, 1169, 1170, 1171, 1172, 1173, 1174, 1157, 1158, 1159, 1160, 1183, 1184, 1185, 1186, 1187, 1188, 1189] (by decide +kernel) (by decide +kernel)) (goodIn_sub (fun _ h => List.mem_append_left _ (List.mem_append_left _ (List.mem_append_right _ h))) (by decide +kernel))
set_option maxRecDepth 20000 in
theorem gL_law_L_restore : GoodIn wsL_law (va_wsS RL 144 yL_restore wsL_restore) := goodIn_app (goodIn_of _ (by decide +kernel)) ggL_law_L_restore
set_option maxRecDepth 20000 in
theorem ggL_law_X7_restore : GoodIn wsL_law wsX7_restore := goodIn_r _ [700, 685, 84, 86, 213, 214, 215, 5, 216, 217, 218, 219, 220, 221, 222, 87, 686, 687, 688, 689, 1141, 1142, 1143, 1144, 1145, 1146, 1147, 1148, 1149, 1150, 1151, 1152, 1153, 1154, 1155, 1156] (by decide +kernel) (by decide +kernel)
set_option maxRecDepth 20000 in
theorem gL_law_X7_restore : GoodIn wsL_law (wsV RL 146 RX7 yX7_restore wsX7_restore) := goodIn_app (goodIn_of _ (by decide +kernel)) ggL_law_X7_restore
set_option maxRecDepth 20000 in
theorem ggL_law_L_tuft : GoodIn wsL_law wsL_tuft := goodIn_ca (goodIn_ca (goodIn_r _ [703, 97, 273, 704, 705, 706, 2, 707, 30, 19, 107, 108, 109, 110, 111, 112, 708, 709, 710, 711, 278, 279, 712, 713, 714, 29, 715, 71, 72, 74, 716, 717, 718, 719, 720, 721, 722, 723, 724, 725, 174, 175, 15, 176, 137, 40, 726, 178, 179, 180, 727, 728, 729, 730, 731, 732, 733, 734, 735, 736, 73, 737, 738, 739, 740, 741, 742, 743, 744, 745, 746, 747, 748, 749, 346, 347, 348, 750, 751, 752, 753, 754, 755, 756, 757, 477, 106, 425, 758, 759, 760, 761, 762, 763, 764, 765, 18, 766, 126, 53, 338, 339, 340, 57, 341, 62, 63, 1132, 1133, 1134, 1135, 1136, 1137, 1138, 1139, 1140, 1177, 1178, 1179, 1180, 1161, 1162, 1163, 1164, 1165, 1166, 1167, 1168, 1169, 1170, 1171, 1172, 1173, 1174, 1157, 1158, 1159, 1160, 1183, 1184, 1185, 1186, 1187, 1188, 1189] (by decide +kernel) (by decide +kernel)) (goodIn_sub (fun _ h => List.mem_append_left _ (List.mem_append_right _ h)) (by decide +kernel))) (goodIn_sub (fun _ h => List.mem_append_right _ h) (by decide +kernel))
set_option maxRecDepth 20000 in
theorem gL_law_L_tuft : GoodIn wsL_law (va_wsS RL 147 yL_tuft wsL_tuft) := goodIn_app (goodIn_of _ (by decide +kernel)) ggL_law_L_tuft
