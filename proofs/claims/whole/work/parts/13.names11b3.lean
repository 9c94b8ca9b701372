set_option maxRecDepth 20000 in
theorem ggL_law_X7_tuft : GoodIn wsL_law wsX7_tuft := goodIn_r _ [770, 207, 208, 5, 209, 210, 211, 212, 213, 214, 215, 216, 217, 771, 772, 773, 774, 84, 90, 91, 775, 776, 777, 778, 243, 244, 245, 246, 255, 256, 257, 779, 780, 781, 782, 783, 784, 785, 786, 787, 788, 789, 790, 791, 792, 793, 794, 795, 796, 797, 798, 799, 800, 801, 235, 236, 237, 238, 239, 240, 241, 242, 802, 803, 804, 805, 1141, 1142, 1143, 1144, 1145, 1146, 1147, 1148, 1149, 1150, 1151, 1152, 1153, 1154, 1155, 1156] (by decide +kernel) (by decide +kernel)
set_option maxRecDepth 20000 in
theorem gL_law_X7_tuft : GoodIn wsL_law (wsV RL 149 RX7 yX7_tuft wsX7_tuft) := goodIn_app (goodIn_of _ (by decide +kernel)) ggL_law_X7_tuft
set_option maxRecDepth 20000 in
theorem ggL_law_L_moleOf : GoodIn wsL_law wsL_moleOf := goodIn_ca (goodIn_ca (goodIn_r _ [808, 97, 273, 809, 810, 811, 2, 812, 19, 280, 282, 283, 284, 285, 111, 112, 105, 708, 709, 710, 711, 278, 279, 813, 814, 815, 57, 816, 144, 143, 61, 62, 63, 145, 817, 339, 340, 341, 1132, 1133, 1134, 1135, 1136, 1137, 1138, 1139, 1140, 1161, 1162, 1163, 1164, 1165, 1166, 1167, 1168, 1169, 1170, 1171, 1172, 1173, 1174, 1183, 1184, 1185, 1186, 1187, 1188, 1189] (by decide +kernel) (by decide +kernel)) (goodIn_sub (fun _ h => List.mem_append_left _ (List.mem_append_right _ h)) (by decide +kernel))) (goodIn_sub (fun _ h => List.mem_append_right _ h) (by decide +kernel))
set_option maxRecDepth 20000 in
theorem gL_law_L_moleOf : GoodIn wsL_law (va_wsS RL 150 yL_moleOf wsL_moleOf) := goodIn_app (goodIn_of _ (by decide +kernel)) ggL_law_L_moleOf
set_option maxRecDepth 20000 in
theorem ggL_law_X7_moleOf : GoodIn wsL_law wsX7_moleOf := goodIn_r _ [821, 294, 295, 296, 5, 297, 84, 210, 211, 212, 213, 214, 215, 216, 217, 822, 823, 824, 825, 255, 256, 257, 1141, 1142, 1143, 1144, 1145, 1146, 1147, 1148, 1149, 1150, 1151, 1152, 1153, 1154, 1155, 1156] (by decide +kernel) (by decide +kernel)
set_option maxRecDepth 20000 in
theorem gL_law_X7_moleOf : GoodIn wsL_law (wsV RL 152 RX7 yX7_moleOf wsX7_moleOf) := goodIn_app (goodIn_of _ (by decide +kernel)) ggL_law_X7_moleOf
set_option maxRecDepth 20000 in
theorem ggL_law_L_tunnel : GoodIn wsL_law wsL_tunnel := goodIn_ca (goodIn_ca (goodIn_r _ [828, 97, 273, 829, 830, 831, 2, 832, 19, 679, 833, 834, 835, 836, 111, 112, 680, 708, 709, 710, 711, 278, 279, 837, 519, 520, 15, 521, 494, 495, 496, 497, 498, 499, 500, 501, 39, 173, 174, 175, 176, 137, 40, 177, 178, 179, 180, 502, 503, 504, 505, 1132, 1133, 1134, 1135, 1136, 1137, 1138, 1139, 1140, 1161, 1162, 1163, 1164, 1165, 1166, 1167, 1168, 1169, 1170, 1171, 1172, 1173, 1174, 1157, 1158, 1159, 1160] (by decide +kernel) (by decide +kernel)) (goodIn_sub (fun _ h => List.mem_append_left _ (List.mem_append_right _ h)) (by decide +kernel))) (goodIn_sub (fun _ h => List.mem_append_right _ h) (by decide +kernel))
set_option maxRecDepth 20000 in
theorem gL_law_L_tunnel : GoodIn wsL_law (va_wsS RL 153 yL_tunnel wsL_tunnel) := goodIn_app (goodIn_of _ (by decide +kernel)) ggL_law_L_tunnel
set_option maxRecDepth 20000 in
theorem ggL_law_X7_tunnel : GoodIn wsL_law wsX7_tunnel := goodIn_r _ [841, 842, 843, 844, 5, 845, 686, 687, 688, 689, 84, 210, 211, 212, 213, 214, 215, 216, 217, 846, 847, 848, 849, 850, 851, 852, 853, 235, 236, 237, 238, 243, 244, 245, 246, 1141, 1142, 1143, 1144, 1145, 1146, 1147, 1148, 1149, 1150, 1151, 1152, 1153, 1154, 1155, 1156] (by decide +kernel) (by decide +kernel)
set_option maxRecDepth 20000 in
theorem gL_law_X7_tunnel : GoodIn wsL_law (wsV RL 155 RX7 yX7_tunnel wsX7_tunnel) := goodIn_app (goodIn_of _ (by decide +kernel)) ggL_law_X7_tunnel
set_option maxRecDepth 20000 in
theorem ggL_law_L_cell : GoodIn wsL_law wsL_cell := goodIn_ca (goodIn_ca (goodIn_r _ [856, 97, 273, 857, 858, 859, 2, 860, 278, 279, 19, 679, 833, 834, 835, 836, 111, 112, 680, 861, 499, 500, 15, 501, 39, 173, 174, 175, 176, 137, 40, 177, 178, 179, 180, 1132, 1133, 1134, 1135, 1136, 1137, 1138, 1139, 1140, 1161, 1162, 1163, 1164, 1165, 1166, 1167, 1168, 1169, 1170, 1171, 1172, 1173, 1174, 1157, 1158, 1159, 1160] (by decide +kernel) (by decide +kernel)) (goodIn_sub (fun _ h => List.mem_append_right _ h) (by decide +kernel))) (goodIn_sub (fun _ h => List.mem_append_left _ (List.mem_append_right _ h)) (by decide +kernel))
set_option maxRecDepth 20000 in
theorem gL_law_L_cell : GoodIn wsL_law (va_wsS RL 156 yL_cell wsL_cell) := goodIn_app (goodIn_of _ (by decide +kernel)) ggL_law_L_cell
set_option maxRecDepth 20000 in
theorem ggL_law_X7_cell : GoodIn wsL_law wsX7_cell := goodIn_r _ [865, 842, 843, 844, 5, 845, 686, 687, 688, 689, 84, 210, 211, 212, 213, 214, 215, 216, 217, 866, 867, 868, 869, 846, 847, 848, 849, 850, 851, 852, 853, 235, 236, 237, 238, 243, 244, 245, 246, 1141, 1142, 1143, 1144, 1145, 1146, 1147, 1148, 1149, 1150, 1151, 1152, 1153, 1154, 1155, 1156] (by decide +kernel) (by decide +kernel)
set_option maxRecDepth 20000 in
theorem gL_law_X7_cell : GoodIn wsL_law (wsV RL 158 RX7 yX7_cell wsX7_cell) := goodIn_app (goodIn_of _ (by decide +kernel)) ggL_law_X7_cell
set_option maxRecDepth 20000 in
theorem ggL_law_L_count : GoodIn wsL_law wsL_count := goodIn_ca (goodIn_r _ [872, 273, 873, 874, 875, 2, 876, 30, 19, 708, 709, 710, 711, 278, 279, 712, 713, 714, 29, 715, 71, 72, 74, 716, 717, 718, 719, 720, 721, 722, 723, 724, 725, 174, 175, 15, 176, 137, 40, 726, 178, 179, 180, 727, 728, 729, 730, 731, 732, 733, 734, 735, 736, 73, 737, 738, 739, 740, 741, 742, 743, 744, 745, 746, 747, 748, 749, 346, 347, 348, 750, 751, 752, 753, 877, 878, 879, 880, 881, 105, 882, 679, 680, 883, 324, 884, 34, 568, 117, 885, 886, 887, 18, 888, 46, 889, 890, 891, 892, 893, 894, 895, 896, 47, 426, 427, 428, 429, 49, 897, 898, 899, 900, 48, 901, 902, 903, 33, 904, 79, 905, 906, 907, 908, 495, 496, 497, 498, 499, 500, 501, 39, 173, 177, 909, 503, 504, 505, 910, 911, 912, 913, 914, 915, 916, 1132, 1133, 1134, 1135, 1136, 1137, 1138, 1139, 1140, 1177, 1178, 1179, 1180, 1161, 1162, 1163, 1164, 1165, 1166, 1167, 1168, 1169, 1170, 1171, 1172, 1173, 1174, 1157, 1158, 1159, 1160, 1183, 1184, 1185, 1186, 1187, 1188, 1189, 1181, 1182] (by decide +kernel) (by decide +kernel)) (goodIn_sub (fun _ h => List.mem_append_right _ h) (by decide +kernel))
set_option maxRecDepth 20000 in
theorem gL_law_L_count : GoodIn wsL_law (va_wsS RL 159 yL_count wsL_count) := goodIn_app (goodIn_of _ (by decide +kernel)) ggL_law_L_count
set_option maxRecDepth 20000 in
theorem ggL_law_X7_count : GoodIn wsL_law wsX7_count := goodIn_r _ [920, 210, 211, 5, 212, 213, 214, 215, 216, 217, 921, 922, 923, 924, 84, 222, 925, 926, 927, 928, 686, 687, 688, 689, 929, 930, 931, 932, 90, 775, 776, 777, 778, 243, 244, 245, 246, 255, 256, 257, 434, 435, 436, 437, 933, 934, 935, 936, 92, 937, 938, 939, 940, 223, 224, 225, 226, 235, 236, 237, 238, 1141, 1142, 1143, 1144, 1145, 1146, 1147, 1148, 1149, 1150, 1151, 1152, 1153, 1154, 1155, 1156] (by decide +kernel) (by decide +kernel)
set_option maxRecDepth 20000 in
theorem gL_law_X7_count : GoodIn wsL_law (wsV RL 161 RX7 yX7_count wsX7_count) := goodIn_app (goodIn_of _ (by decide +kernel)) ggL_law_X7_count
set_option maxRecDepth 20000 in
theorem ggL_law_L_joined : GoodIn wsL_law wsL_joined := goodIn_ca (goodIn_r _ [943, 97, 944, 945, 946, 2, 947, 34, 19, 948, 107, 108, 109, 110, 111, 112, 949, 950, 951, 33, 952, 78, 953, 905, 906, 908, 495, 496, 15, 497, 498, 499, 500, 501, 39, 173, 174, 175, 176, 137, 40, 177, 178, 179, 180, 909, 503, 504, 505, 910, 911, 912, 954, 955, 956, 957, 1132, 1133, 1134, 1135, 1136, 1137, 1138, 1139, 1140, 1181, 1182, 1161, 1162, 1163, 1164, 1165, 1166, 1167, 1168, 1169, 1170, 1171, 1172, 1173, 1174, 1157, 1158, 1159, 1160] (by decide +kernel) (by decide +kernel)) (goodIn_sub (fun _ h => List.mem_append_left _ (List.mem_append_right _ h)) (by decide +kernel))
set_option maxRecDepth 20000 in
theorem gL_law_L_joined : GoodIn wsL_law (va_wsS RL 162 yL_joined wsL_joined) := goodIn_app (goodIn_of _ (by decide +kernel)) ggL_law_L_joined
set_option maxRecDepth 20000 in
theorem ggL_law_X7_joined : GoodIn wsL_law wsX7_joined := goodIn_r _ [961, 207, 208, 5, 209, 210, 211, 212, 213, 214, 215, 216, 217, 962, 963, 964, 965, 92, 937, 938, 939, 940, 84, 223, 224, 225, 226, 243, 244, 245, 246, 235, 236, 237, 238, 1141, 1142, 1143, 1144, 1145, 1146, 1147, 1148, 1149, 1150, 1151, 1152, 1153, 1154, 1155, 1156] (by decide +kernel) (by decide +kernel)
set_option maxRecDepth 20000 in
theorem gL_law_X7_joined : GoodIn wsL_law (wsV RL 164 RX7 yX7_joined wsX7_joined) := goodIn_app (goodIn_of _ (by decide +kernel)) ggL_law_X7_joined
set_option maxRecDepth 20000 in
theorem ggL_law_L_fewest : GoodIn wsL_law wsL_fewest := goodIn_ca (goodIn_r _ [968, 97, 969, 970, 971, 2, 972, 34, 19, 948, 107, 108, 109, 110, 111, 112, 949, 950, 951, 33, 952, 78, 953, 905, 906, 908, 495, 496, 15, 497, 498, 499, 500, 501, 39, 173, 174, 175, 176, 137, 40, 177, 178, 179, 180, 909, 503, 504, 505, 910, 911, 912, 954, 955, 956, 957, 1132, 1133, 1134, 1135, 1136, 1137, 1138, 1139, 1140, 1181, 1182, 1161, 1162, 1163, 1164, 1165, 1166, 1167, 1168, 1169, 1170, 1171, 1172, 1173, 1174, 1157, 1158, 1159, 1160] (by decide +kernel) (by decide +kernel)) (goodIn_sub (fun _ h => List.mem_append_left _ (List.mem_append_right _ h)) (by decide +kernel))
set_option maxRecDepth 20000 in
theorem gL_law_L_fewest : GoodIn wsL_law (va_wsS RL 165 yL_fewest wsL_fewest) := goodIn_app (goodIn_of _ (by decide +kernel)) ggL_law_L_fewest
