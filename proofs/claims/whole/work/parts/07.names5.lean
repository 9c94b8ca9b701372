set_option maxRecDepth 20000 in
theorem ggX6_ifPassed_X6_checkBeats : GoodIn wsX6_ifPassed wsX6_checkBeats := goodIn_ca (goodIn_r _ [5, 6, 7] (by decide +kernel) (by decide +kernel)) (goodIn_sub (fun _ h => List.mem_cons_of_mem _ (List.mem_append_right _ h)) (by decide +kernel))
set_option maxRecDepth 20000 in
theorem gX6_ifPassed_X6_checkBeats : GoodIn wsX6_ifPassed (wsV RX6 100 RX6 yX6_checkBeats wsX6_checkBeats) := goodIn_app (goodIn_of _ (by decide +kernel)) ggX6_ifPassed_X6_checkBeats
set_option maxRecDepth 20000 in
theorem ggX6_ifPassed_X6_checkWhat : GoodIn wsX6_ifPassed wsX6_checkWhat := goodIn_ca (goodIn_r _ [11, 6, 7] (by decide +kernel) (by decide +kernel)) (goodIn_sub (fun _ h => List.mem_cons_of_mem _ (List.mem_append_right _ h)) (by decide +kernel))
set_option maxRecDepth 20000 in
theorem gX6_ifPassed_X6_checkWhat : GoodIn wsX6_ifPassed (wsV RX6 196 RX6 yX6_checkWhat wsX6_checkWhat) := goodIn_app (goodIn_of _ (by decide +kernel)) ggX6_ifPassed_X6_checkWhat
set_option maxRecDepth 20000 in
theorem ggX6_ifPassed_X6_tryBeats : GoodIn wsX6_ifPassed wsX6_tryBeats := goodIn_r _ [15, 16, 17, 18, 19, 20, 21, 22, 23, 24, 25, 26, 27, 28, 29, 30, 31, 32, 33, 34, 35, 36, 37, 38, 39, 40, 41, 42, 43, 44, 45, 46, 47, 48, 49, 50, 51, 52, 53, 54, 55, 56, 57, 58, 59, 60, 61, 62, 63, 64, 65, 66, 67, 68, 69, 70, 71, 72, 73, 74, 75, 76, 77, 4, 78, 79, 80, 81, 82, 83, 84, 85, 86, 87, 88, 89, 90, 91, 92, 93, 94, 95, 96, 97, 98, 99, 100, 101, 102, 103, 104, 105, 106, 107, 108, 109, 110, 111, 112, 113, 114, 115, 116, 117, 118, 119, 120, 121, 122, 123, 124, 125, 126, 127, 128, 129, 130, 131, 132, 133, 134, 135, 136, 137, 138, 139, 140, 141, 142, 143, 144, 145, 146, 147, 148, 149, 158, 159, 160, 161, 162, 163, 164, 165, 166, 167, 168, 169, 170, 171, 172, 173, 174, 175, 176, 177, 178, 179, 180, 181, 182, 183, 184, 185, 186, 187, 188, 189, 190, 191] (by decide +kernel) (by decide +kernel)
set_option maxRecDepth 20000 in
theorem gX6_ifPassed_X6_tryBeats : GoodIn wsX6_ifPassed (wsV RX6 239 RX6 yX6_tryBeats wsX6_tryBeats) := goodIn_app (goodIn_of _ (by decide +kernel)) ggX6_ifPassed_X6_tryBeats
set_option maxRecDepth 20000 in
theorem ggX6_ifPassed_X6_numberOfTrial : GoodIn wsX6_ifPassed wsX6_numberOfTrial := goodIn_r _ [153, 16, 154, 17, 155, 156, 157, 158, 159, 160, 161, 162, 163, 164, 165, 166, 167, 168, 169, 170, 171, 172, 173, 174, 175, 176, 177, 178, 179, 180, 181, 182, 183, 184] (by decide +kernel) (by decide +kernel)
set_option maxRecDepth 20000 in
theorem gX6_ifPassed_X6_numberOfTrial : GoodIn wsX6_ifPassed (wsV RX6 242 RX6 yX6_numberOfTrial wsX6_numberOfTrial) := goodIn_app (goodIn_of _ (by decide +kernel)) ggX6_ifPassed_X6_numberOfTrial
theorem dX6_ifPassed_0 : decode cX6_ifPassed 0 = .ok (.aload_n 0, 1) := by decide +kernel
theorem dX6_ifPassed_1 : decode cX6_ifPassed 1 = .ok (.iload_n 1, 1) := by decide +kernel
theorem dX6_ifPassed_2 : decode cX6_ifPassed 2 = .ok (.invokevirtual 100, 3) := by decide +kernel
theorem dX6_ifPassed_5 : decode cX6_ifPassed 5 = .ok (.aload_n 0, 1) := by decide +kernel
theorem dX6_ifPassed_6 : decode cX6_ifPassed 6 = .ok (.iload_n 2, 1) := by decide +kernel
theorem dX6_ifPassed_7 : decode cX6_ifPassed 7 = .ok (.iconst 2, 1) := by decide +kernel
theorem dX6_ifPassed_8 : decode cX6_ifPassed 8 = .ok (.invokevirtual 196, 3) := by decide +kernel
theorem dX6_ifPassed_11 : decode cX6_ifPassed 11 = .ok (.aload_n 0, 1) := by decide +kernel
theorem dX6_ifPassed_12 : decode cX6_ifPassed 12 = .ok (.iload_n 1, 1) := by decide +kernel
theorem dX6_ifPassed_13 : decode cX6_ifPassed 13 = .ok (.invokevirtual 239, 3) := by decide +kernel
theorem dX6_ifPassed_16 : decode cX6_ifPassed 16 = .ok (.aload_n 0, 1) := by decide +kernel
theorem dX6_ifPassed_17 : decode cX6_ifPassed 17 = .ok (.iload_n 2, 1) := by decide +kernel
theorem dX6_ifPassed_18 : decode cX6_ifPassed 18 = .ok (.invokevirtual 242, 3) := by decide +kernel
theorem dX6_ifPassed_21 : decode cX6_ifPassed 21 = .ok (.ireturn, 1) := by decide +kernel
set_option maxRecDepth 20000 in
theorem ggX6_nextMound_X6_beatsToMound : GoodIn wsX6_nextMound wsX6_beatsToMound := goodIn_r _ [5, 6, 7, 8, 9, 10, 11, 12, 13, 14, 15, 16, 17, 18, 19, 20, 21, 22, 23, 24, 25, 26, 27, 28, 29, 30, 31, 32, 33, 34, 35, 36, 37, 38, 39, 40, 41, 42, 43, 44, 45, 46, 47, 48, 49, 50, 51, 52, 53, 54, 55, 56, 57, 58, 59, 60, 61, 62, 63, 64, 65, 66, 67, 68, 69, 70, 71, 72, 4, 73, 74, 75, 76, 77, 78, 79, 80, 81, 82, 83, 84, 85, 86, 87, 88, 89, 90, 91, 92, 93, 94, 95, 96, 97, 98, 99, 100, 101, 102, 103, 104, 105, 106, 107, 108, 109, 110, 111, 112, 113, 114, 115, 116, 117, 118, 119, 120, 121, 122, 123, 124, 125, 126, 127, 128, 129, 130, 131, 132, 133, 134, 135, 136, 137, 138, 139, 140, 141, 142, 143, 144, 145, 146, 147, 148, 149, 150, 151, 152, 153, 154, 155, 156, 157, 158, 159, 160, 161, 162, 163, 164, 165, 166, 167, 168, 169, 170, 171, 172, 173, 174, 175, 176, 177, 178] (by decide +kernel) (by decide +kernel)
set_option maxRecDepth 20000 in
theorem gX6_nextMound_X6_beatsToMound : GoodIn wsX6_nextMound (wsV RX6 245 RX6 yX6_beatsToMound wsX6_beatsToMound) := goodIn_app (goodIn_of _ (by decide +kernel)) ggX6_nextMound_X6_beatsToMound
theorem dX6_nextMound_0 : decode cX6_nextMound 0 = .ok (.aload_n 0, 1) := by decide +kernel
theorem dX6_nextMound_1 : decode cX6_nextMound 1 = .ok (.invokevirtual 245, 3) := by decide +kernel
theorem dX6_nextMound_4 : decode cX6_nextMound 4 = .ok (.ireturn, 1) := by decide +kernel
set_option maxRecDepth 20000 in
theorem ggX6_hollowShare_X4_read : GoodIn wsX6_hollowShare wsX4_read := goodIn_r _ [8, 9, 10, 11, 12, 13, 14, 15, 16, 17, 18, 7, 19, 20, 21, 22, 23, 24, 25, 26, 27, 28, 29, 30, 31, 32, 33, 34, 35, 36, 37, 38, 39, 40, 41, 42, 43, 44, 45, 46, 47, 48, 49, 50, 51, 52, 53, 54, 55, 56, 57, 58, 59, 60, 61, 62, 63, 77, 78, 79, 80, 81, 82, 83, 84, 85, 86, 87, 88, 89, 90, 91, 92, 93, 94, 95, 96, 97, 98, 99, 100, 101, 102, 103, 104, 105] (by decide +kernel) (by decide +kernel)
set_option maxRecDepth 20000 in
theorem gX6_hollowShare_X4_read : GoodIn wsX6_hollowShare (wsV RX6 200 RX4 yX4_read wsX4_read) := goodIn_app (goodIn_of _ (by decide +kernel)) ggX6_hollowShare_X4_read
set_option maxRecDepth 20000 in
theorem ggX6_hollowShare_X4_hollowCount : GoodIn wsX6_hollowShare wsX4_hollowCount := goodIn_r _ [67, 9, 77, 78, 79, 80] (by decide +kernel) (by decide +kernel)
set_option maxRecDepth 20000 in
theorem gX6_hollowShare_X4_hollowCount : GoodIn wsX6_hollowShare (wsV RX6 233 RX4 yX4_hollowCount wsX4_hollowCount) := goodIn_app (goodIn_of _ (by decide +kernel)) ggX6_hollowShare_X4_hollowCount
theorem dX6_hollowShare_0 : decode cX6_hollowShare 0 = .ok (.aload_n 0, 1) := by decide +kernel
theorem dX6_hollowShare_1 : decode cX6_hollowShare 1 = .ok (.getfield 41, 3) := by decide +kernel
theorem dX6_hollowShare_4 : decode cX6_hollowShare 4 = .ok (.aload_n 0, 1) := by decide +kernel
theorem dX6_hollowShare_5 : decode cX6_hollowShare 5 = .ok (.getfield 15, 3) := by decide +kernel
theorem dX6_hollowShare_8 : decode cX6_hollowShare 8 = .ok (.invokevirtual 200, 3) := by decide +kernel
theorem dX6_hollowShare_11 : decode cX6_hollowShare 11 = .ok (.aload_n 0, 1) := by decide +kernel
theorem dX6_hollowShare_12 : decode cX6_hollowShare 12 = .ok (.getfield 41, 3) := by decide +kernel
theorem dX6_hollowShare_15 : decode cX6_hollowShare 15 = .ok (.invokevirtual 233, 3) := by decide +kernel
theorem dX6_hollowShare_18 : decode cX6_hollowShare 18 = .ok (.i2d, 1) := by decide +kernel
theorem dX6_hollowShare_19 : decode cX6_hollowShare 19 = .ok (.ldc2_w 248, 3) := by decide +kernel
theorem dX6_hollowShare_22 : decode cX6_hollowShare 22 = .ok (.ddiv, 1) := by decide +kernel
theorem dX6_hollowShare_23 : decode cX6_hollowShare 23 = .ok (.dreturn, 1) := by decide +kernel
set_option maxRecDepth 20000 in
theorem ggX6_digest_X4_read : GoodIn wsX6_digest wsX4_read := goodIn_r _ [12, 13, 14, 15, 16, 17, 18, 19, 20, 21, 22, 11, 23, 24, 25, 26, 27, 28, 29, 30, 31, 32, 33, 34, 35, 36, 37, 38, 39, 40, 41, 42, 43, 44, 45, 46, 47, 48, 49, 50, 51, 52, 53, 54, 55, 56, 57, 58, 59, 60, 61, 62, 63, 64, 65, 66, 67, 350, 351, 352, 353, 354, 355, 356, 357, 358, 359, 360, 361, 362, 363, 364, 365, 366, 367, 368, 369, 370, 371, 372, 373, 374, 375, 376, 377, 378] (by decide +kernel) (by decide +kernel)
set_option maxRecDepth 20000 in
theorem gX6_digest_X4_read : GoodIn wsX6_digest (wsV RX6 200 RX4 yX4_read wsX4_read) := goodIn_app (goodIn_of _ (by decide +kernel)) ggX6_digest_X4_read
set_option maxRecDepth 20000 in
theorem ggX6_digest_X6_numberOfAll : GoodIn wsX6_digest wsX6_numberOfAll := goodIn_r _ [71, 2, 72, 73, 74, 75, 76, 1, 77, 78, 79, 80, 81, 82, 83, 84, 85, 86, 87, 88, 89, 90, 91, 11, 92, 13, 93, 94, 95, 96, 97, 98, 99, 100, 101, 102, 103, 104, 105, 106, 107, 108, 109, 110, 111, 112, 113, 114, 115, 116, 117, 118, 119, 28, 120, 121, 122, 123, 124, 125, 126, 26, 27, 29, 30, 31, 127, 33, 34, 35, 128, 129, 130, 131, 132, 133, 134, 135, 136, 137, 138, 339, 340, 341, 342, 343, 344, 345, 346, 347, 354, 355, 356, 357, 358, 359, 360, 361, 362, 363, 364, 365, 366, 367, 368, 369, 370, 371, 350, 351, 352, 353, 379, 380] (by decide +kernel) (by decide +kernel)
set_option maxRecDepth 20000 in
theorem gX6_digest_X6_numberOfAll : GoodIn wsX6_digest (wsV RX6 220 RX6 yX6_numberOfAll wsX6_numberOfAll) := goodIn_app (goodIn_of _ (by decide +kernel)) ggX6_digest_X6_numberOfAll
set_option maxRecDepth 20000 in
theorem ggX6_digest_X6_hashTufts : GoodIn wsX6_digest wsX6_hashTufts := goodIn_r _ [142, 4, 143, 144, 145, 57, 146, 2, 147, 148, 149, 1, 150, 151, 152, 153, 154, 53, 54, 11, 55, 56, 58, 59, 60, 61, 62, 63, 155, 156, 157, 86, 158, 159, 160, 161, 162, 163, 164, 165, 166, 167, 339, 340, 341, 342, 343, 344, 345, 346, 347, 354, 355, 356, 357, 358, 359, 360, 361, 362, 363, 364, 365, 366, 367, 350, 351, 352, 353, 372, 373, 374, 375, 376, 377, 378] (by decide +kernel) (by decide +kernel)
set_option maxRecDepth 20000 in
theorem gX6_digest_X6_hashTufts : GoodIn wsX6_digest (wsV RX6 254 RX6 yX6_hashTufts wsX6_hashTufts) := goodIn_app (goodIn_of _ (by decide +kernel)) ggX6_digest_X6_hashTufts
set_option maxRecDepth 20000 in
theorem ggX6_digest_X6_hashMoles : GoodIn wsX6_digest wsX6_hashMoles := goodIn_r _ [171, 2, 73, 4, 172, 173, 174, 175, 164, 176, 177, 178, 179, 166, 167, 180, 181, 162, 163, 165, 339, 340, 341, 342, 343, 344, 345, 346, 347, 354, 355, 356, 357, 358, 359, 360, 361, 362, 363, 364, 365, 366, 367, 372, 373, 374, 375, 376, 377, 378] (by decide +kernel) (by decide +kernel)
set_option maxRecDepth 20000 in
theorem gX6_digest_X6_hashMoles : GoodIn wsX6_digest (wsV RX6 258 RX6 yX6_hashMoles wsX6_hashMoles) := goodIn_app (goodIn_of _ (by decide +kernel)) ggX6_digest_X6_hashMoles
set_option maxRecDepth 20000 in
theorem ggX6_digest_X6_hashTunnels : GoodIn wsX6_digest wsX6_hashTunnels := goodIn_r _ [185, 2, 75, 76, 4, 186, 187, 188, 28, 189, 190, 118, 119, 120, 121, 122, 123, 124, 125, 126, 26, 27, 29, 30, 31, 127, 33, 34, 35, 191, 129, 130, 131, 192, 339, 340, 341, 342, 343, 344, 345, 346, 347, 354, 355, 356, 357, 358, 359, 360, 361, 362, 363, 364, 365, 366, 367, 368, 369, 370, 371] (by decide +kernel) (by decide +kernel)
set_option maxRecDepth 20000 in
theorem gX6_digest_X6_hashTunnels : GoodIn wsX6_digest (wsV RX6 261 RX6 yX6_hashTunnels wsX6_hashTunnels) := goodIn_app (goodIn_of _ (by decide +kernel)) ggX6_digest_X6_hashTunnels
set_option maxRecDepth 20000 in
theorem ggX6_digest_X6_hashPaths : GoodIn wsX6_digest wsX6_hashPaths := goodIn_r _ [196, 2, 80, 147, 4, 197, 198, 199, 200, 86, 201, 88, 202, 203, 204, 111, 205, 206, 207, 114, 115, 117, 118, 119, 28, 120, 121, 122, 123, 124, 125, 126, 26, 27, 29, 30, 31, 127, 33, 34, 35, 128, 129, 130, 131, 132, 133, 134, 208, 209, 210, 211, 339, 340, 341, 342, 343, 344, 345, 346, 347, 354, 355, 356, 357, 358, 359, 360, 361, 362, 363, 364, 365, 366, 367, 379, 380, 368, 369, 370, 371] (by decide +kernel) (by decide +kernel)
set_option maxRecDepth 20000 in
theorem gX6_digest_X6_hashPaths : GoodIn wsX6_digest (wsV RX6 264 RX6 yX6_hashPaths wsX6_hashPaths) := goodIn_app (goodIn_of _ (by decide +kernel)) ggX6_digest_X6_hashPaths
set_option maxRecDepth 20000 in
theorem ggX6_digest_X6_hashDigging : GoodIn wsX6_digest wsX6_hashDigging := goodIn_r _ [215, 4, 1, 153, 216, 217, 218, 57, 219, 2, 151, 339, 340, 341, 342, 343, 344, 345, 346, 347, 350, 351, 352, 353, 354, 355, 356, 357, 358, 359, 360, 361, 362, 363, 364, 365, 366, 367] (by decide +kernel) (by decide +kernel)
set_option maxRecDepth 20000 in
theorem gX6_digest_X6_hashDigging : GoodIn wsX6_digest (wsV RX6 267 RX6 yX6_hashDigging wsX6_hashDigging) := goodIn_app (goodIn_of _ (by decide +kernel)) ggX6_digest_X6_hashDigging
set_option maxRecDepth 20000 in
theorem ggX6_digest_X6_tryBeats : GoodIn wsX6_digest wsX6_tryBeats := goodIn_r _ [223, 224, 2, 225, 226, 227, 86, 228, 88, 229, 230, 231, 232, 97, 107, 102, 233, 159, 160, 234, 235, 236, 237, 238, 239, 240, 241, 242, 28, 243, 244, 30, 125, 245, 31, 246, 247, 248, 164, 249, 178, 167, 177, 180, 179, 250, 166, 251, 252, 253, 254, 255, 256, 257, 258, 259, 260, 261, 161, 162, 163, 165, 262, 57, 263, 264, 265, 61, 62, 63, 266, 267, 268, 269, 270, 271, 272, 273, 274, 275, 276, 277, 278, 279, 280, 281, 282, 283, 284, 285, 286, 287, 288, 289, 290, 291, 292, 293, 294, 295, 296, 297, 298, 299, 300, 301, 302, 303, 304, 305, 306, 307, 308, 309, 310, 311, 312, 313, 126, 26, 27, 29, 127, 33, 34, 35, 314, 315, 316, 317, 318, 319, 320, 321, 322, 323, 339, 340, 341, 342, 343, 344, 345, 346, 347, 354, 355, 356, 357, 358, 359, 360, 361, 362, 363, 364, 365, 366, 367, 368, 369, 370, 371, 372, 373, 374, 375, 376, 377, 378] (by decide +kernel) (by decide +kernel)
set_option maxRecDepth 20000 in
theorem gX6_digest_X6_tryBeats : GoodIn wsX6_digest (wsV RX6 239 RX6 yX6_tryBeats wsX6_tryBeats) := goodIn_app (goodIn_of _ (by decide +kernel)) ggX6_digest_X6_tryBeats
set_option maxRecDepth 20000 in
theorem ggX6_digest_X6_numberOfTrial : GoodIn wsX6_digest wsX6_numberOfTrial := goodIn_r _ [327, 224, 78, 2, 75, 76, 74, 339, 340, 341, 342, 343, 344, 345, 346, 347, 354, 355, 356, 357, 358, 359, 360, 361, 362, 363, 364, 365, 366, 367, 368, 369, 370, 371] (by decide +kernel) (by decide +kernel)
set_option maxRecDepth 20000 in
theorem gX6_digest_X6_numberOfTrial : GoodIn wsX6_digest (wsV RX6 242 RX6 yX6_numberOfTrial wsX6_numberOfTrial) := goodIn_app (goodIn_of _ (by decide +kernel)) ggX6_digest_X6_numberOfTrial
set_option maxRecDepth 20000 in
theorem ggX6_digest_X6_beatsToMound : GoodIn wsX6_digest wsX6_beatsToMound := goodIn_r _ [331, 224, 2, 78, 225, 226, 227, 86, 228, 88, 229, 230, 231, 232, 97, 107, 102, 233, 159, 160, 234, 235, 236, 237, 238, 239, 240, 241, 242, 28, 243, 244, 30, 125, 245, 31, 246, 247, 248, 164, 249, 178, 167, 177, 180, 179, 250, 166, 332, 333, 334, 335, 259, 251, 252, 253, 254, 255, 256, 257, 258, 260, 261, 161, 162, 163, 165, 262, 57, 263, 264, 265, 61, 62, 63, 266, 267, 268, 269, 270, 271, 272, 273, 274, 275, 276, 277, 278, 279, 280, 281, 282, 283, 284, 285, 286, 287, 288, 289, 290, 291, 292, 293, 294, 295, 296, 297, 298, 299, 300, 301, 302, 303, 304, 305, 306, 307, 308, 309, 310, 311, 312, 313, 126, 26, 27, 29, 127, 33, 34, 35, 314, 315, 316, 317, 318, 319, 320, 321, 322, 323, 339, 340, 341, 342, 343, 344, 345, 346, 347, 354, 355, 356, 357, 358, 359, 360, 361, 362, 363, 364, 365, 366, 367, 368, 369, 370, 371, 372, 373, 374, 375, 376, 377, 378] (by decide +kernel) (by decide +kernel)
set_option maxRecDepth 20000 in
theorem gX6_digest_X6_beatsToMound : GoodIn wsX6_digest (wsV RX6 245 RX6 yX6_beatsToMound wsX6_beatsToMound) := goodIn_app (goodIn_of _ (by decide +kernel)) ggX6_digest_X6_beatsToMound
set_option maxRecDepth 20000 in
theorem ggX6_digest_X4_hollowCount : GoodIn wsX6_digest wsX4_hollowCount := goodIn_r _ [92, 13, 350, 351, 352, 353] (by decide +kernel) (by decide +kernel)
set_option maxRecDepth 20000 in
theorem gX6_digest_X4_hollowCount : GoodIn wsX6_digest (wsV RX6 233 RX4 yX4_hollowCount wsX4_hollowCount) := goodIn_app (goodIn_of _ (by decide +kernel)) ggX6_digest_X4_hollowCount
set_option maxRecDepth 20000 in
theorem ggX6_digest_X6_bitsOfShare : GoodIn wsX6_digest wsX6_bitsOfShare := goodIn_r _ [338] (by decide +kernel) (by decide +kernel)
set_option maxRecDepth 20000 in
theorem gX6_digest_X6_bitsOfShare : GoodIn wsX6_digest (va_wsS RX6 270 yX6_bitsOfShare wsX6_bitsOfShare) := goodIn_app (goodIn_of _ (by decide +kernel)) ggX6_digest_X6_bitsOfShare
theorem dX6_digest_0 : decode cX6_digest 0 = .ok (.aload_n 0, 1) := by decide +kernel
theorem dX6_digest_1 : decode cX6_digest 1 = .ok (.getfield 41, 3) := by decide +kernel
theorem dX6_digest_4 : decode cX6_digest 4 = .ok (.aload_n 0, 1) := by decide +kernel
theorem dX6_digest_5 : decode cX6_digest 5 = .ok (.getfield 15, 3) := by decide +kernel
theorem dX6_digest_8 : decode cX6_digest 8 = .ok (.invokevirtual 200, 3) := by decide +kernel
theorem dX6_digest_11 : decode cX6_digest 11 = .ok (.ldc2_w 250, 3) := by decide +kernel
theorem dX6_digest_14 : decode cX6_digest 14 = .ok (.lstore_n 1, 1) := by decide +kernel
theorem dX6_digest_15 : decode cX6_digest 15 = .ok (.iconst 0, 1) := by decide +kernel
theorem dX6_digest_16 : decode cX6_digest 16 = .ok (.istore_n 3, 1) := by decide +kernel
theorem dX6_digest_17 : decode cX6_digest 17 = .ok (.iload_n 3, 1) := by decide +kernel
theorem dX6_digest_18 : decode cX6_digest 18 = .ok (.bipush 14, 2) := by decide +kernel
theorem dX6_digest_20 : decode cX6_digest 20 = .ok (.if_icmp .gt 22, 3) := by decide +kernel
theorem dX6_digest_23 : decode cX6_digest 23 = .ok (.ldc2_w 252, 3) := by decide +kernel
theorem dX6_digest_26 : decode cX6_digest 26 = .ok (.lload_n 1, 1) := by decide +kernel
theorem dX6_digest_27 : decode cX6_digest 27 = .ok (.lmul, 1) := by decide +kernel
theorem dX6_digest_28 : decode cX6_digest 28 = .ok (.aload_n 0, 1) := by decide +kernel
theorem dX6_digest_29 : decode cX6_digest 29 = .ok (.iload_n 3, 1) := by decide +kernel
theorem dX6_digest_30 : decode cX6_digest 30 = .ok (.invokevirtual 220, 3) := by decide +kernel
theorem dX6_digest_33 : decode cX6_digest 33 = .ok (.i2l, 1) := by decide +kernel
theorem dX6_digest_34 : decode cX6_digest 34 = .ok (.ladd, 1) := by decide +kernel
theorem dX6_digest_35 : decode cX6_digest 35 = .ok (.lstore_n 1, 1) := by decide +kernel
theorem dX6_digest_36 : decode cX6_digest 36 = .ok (.iinc 3 1, 3) := by decide +kernel
theorem dX6_digest_39 : decode cX6_digest 39 = .ok (.goto (-22), 3) := by decide +kernel
theorem dX6_digest_42 : decode cX6_digest 42 = .ok (.aload_n 0, 1) := by decide +kernel
theorem dX6_digest_43 : decode cX6_digest 43 = .ok (.lload_n 1, 1) := by decide +kernel
theorem dX6_digest_44 : decode cX6_digest 44 = .ok (.invokevirtual 254, 3) := by decide +kernel
theorem dX6_digest_47 : decode cX6_digest 47 = .ok (.lstore_n 1, 1) := by decide +kernel
theorem dX6_digest_48 : decode cX6_digest 48 = .ok (.aload_n 0, 1) := by decide +kernel
theorem dX6_digest_49 : decode cX6_digest 49 = .ok (.lload_n 1, 1) := by decide +kernel
theorem dX6_digest_50 : decode cX6_digest 50 = .ok (.invokevirtual 258, 3) := by decide +kernel
theorem dX6_digest_53 : decode cX6_digest 53 = .ok (.lstore_n 1, 1) := by decide +kernel
theorem dX6_digest_54 : decode cX6_digest 54 = .ok (.aload_n 0, 1) := by decide +kernel
theorem dX6_digest_55 : decode cX6_digest 55 = .ok (.lload_n 1, 1) := by decide +kernel
theorem dX6_digest_56 : decode cX6_digest 56 = .ok (.invokevirtual 261, 3) := by decide +kernel
theorem dX6_digest_59 : decode cX6_digest 59 = .ok (.lstore_n 1, 1) := by decide +kernel
theorem dX6_digest_60 : decode cX6_digest 60 = .ok (.aload_n 0, 1) := by decide +kernel
theorem dX6_digest_61 : decode cX6_digest 61 = .ok (.lload_n 1, 1) := by decide +kernel
theorem dX6_digest_62 : decode cX6_digest 62 = .ok (.invokevirtual 264, 3) := by decide +kernel
theorem dX6_digest_65 : decode cX6_digest 65 = .ok (.lstore_n 1, 1) := by decide +kernel
theorem dX6_digest_66 : decode cX6_digest 66 = .ok (.aload_n 0, 1) := by decide +kernel
theorem dX6_digest_67 : decode cX6_digest 67 = .ok (.lload_n 1, 1) := by decide +kernel
theorem dX6_digest_68 : decode cX6_digest 68 = .ok (.invokevirtual 267, 3) := by decide +kernel
theorem dX6_digest_71 : decode cX6_digest 71 = .ok (.lstore_n 1, 1) := by decide +kernel
theorem dX6_digest_72 : decode cX6_digest 72 = .ok (.aload_n 0, 1) := by decide +kernel
theorem dX6_digest_73 : decode cX6_digest 73 = .ok (.iconst 5, 1) := by decide +kernel
theorem dX6_digest_74 : decode cX6_digest 74 = .ok (.invokevirtual 239, 3) := by decide +kernel
theorem dX6_digest_77 : decode cX6_digest 77 = .ok (.iconst 0, 1) := by decide +kernel
theorem dX6_digest_78 : decode cX6_digest 78 = .ok (.istore_n 3, 1) := by decide +kernel
theorem dX6_digest_79 : decode cX6_digest 79 = .ok (.iload_n 3, 1) := by decide +kernel
theorem dX6_digest_80 : decode cX6_digest 80 = .ok (.iconst 2, 1) := by decide +kernel
theorem dX6_digest_81 : decode cX6_digest 81 = .ok (.if_icmp .gt 22, 3) := by decide +kernel
theorem dX6_digest_84 : decode cX6_digest 84 = .ok (.ldc2_w 252, 3) := by decide +kernel
theorem dX6_digest_87 : decode cX6_digest 87 = .ok (.lload_n 1, 1) := by decide +kernel
theorem dX6_digest_88 : decode cX6_digest 88 = .ok (.lmul, 1) := by decide +kernel
theorem dX6_digest_89 : decode cX6_digest 89 = .ok (.aload_n 0, 1) := by decide +kernel
theorem dX6_digest_90 : decode cX6_digest 90 = .ok (.iload_n 3, 1) := by decide +kernel
theorem dX6_digest_91 : decode cX6_digest 91 = .ok (.invokevirtual 242, 3) := by decide +kernel
theorem dX6_digest_94 : decode cX6_digest 94 = .ok (.i2l, 1) := by decide +kernel
theorem dX6_digest_95 : decode cX6_digest 95 = .ok (.ladd, 1) := by decide +kernel
theorem dX6_digest_96 : decode cX6_digest 96 = .ok (.lstore_n 1, 1) := by decide +kernel
theorem dX6_digest_97 : decode cX6_digest 97 = .ok (.iinc 3 1, 3) := by decide +kernel
theorem dX6_digest_100 : decode cX6_digest 100 = .ok (.goto (-21), 3) := by decide +kernel
theorem dX6_digest_103 : decode cX6_digest 103 = .ok (.ldc2_w 252, 3) := by decide +kernel
theorem dX6_digest_106 : decode cX6_digest 106 = .ok (.lload_n 1, 1) := by decide +kernel
theorem dX6_digest_107 : decode cX6_digest 107 = .ok (.lmul, 1) := by decide +kernel
theorem dX6_digest_108 : decode cX6_digest 108 = .ok (.aload_n 0, 1) := by decide +kernel
theorem dX6_digest_109 : decode cX6_digest 109 = .ok (.invokevirtual 245, 3) := by decide +kernel
theorem dX6_digest_112 : decode cX6_digest 112 = .ok (.i2l, 1) := by decide +kernel
theorem dX6_digest_113 : decode cX6_digest 113 = .ok (.ladd, 1) := by decide +kernel
theorem dX6_digest_114 : decode cX6_digest 114 = .ok (.lstore_n 1, 1) := by decide +kernel
theorem dX6_digest_115 : decode cX6_digest 115 = .ok (.ldc2_w 252, 3) := by decide +kernel
theorem dX6_digest_118 : decode cX6_digest 118 = .ok (.lload_n 1, 1) := by decide +kernel
theorem dX6_digest_119 : decode cX6_digest 119 = .ok (.lmul, 1) := by decide +kernel
theorem dX6_digest_120 : decode cX6_digest 120 = .ok (.aload_n 0, 1) := by decide +kernel
theorem dX6_digest_121 : decode cX6_digest 121 = .ok (.getfield 41, 3) := by decide +kernel
theorem dX6_digest_124 : decode cX6_digest 124 = .ok (.invokevirtual 233, 3) := by decide +kernel
theorem dX6_digest_127 : decode cX6_digest 127 = .ok (.invokestatic 270, 3) := by decide +kernel
theorem dX6_digest_130 : decode cX6_digest 130 = .ok (.ladd, 1) := by decide +kernel
theorem dX6_digest_131 : decode cX6_digest 131 = .ok (.lstore_n 1, 1) := by decide +kernel
theorem dX6_digest_132 : decode cX6_digest 132 = .ok (.ldc2_w 252, 3) := by decide +kernel
theorem dX6_digest_135 : decode cX6_digest 135 = .ok (.lload_n 1, 1) := by decide +kernel
theorem dX6_digest_136 : decode cX6_digest 136 = .ok (.lmul, 1) := by decide +kernel
theorem dX6_digest_137 : decode cX6_digest 137 = .ok (.aload_n 0, 1) := by decide +kernel
theorem dX6_digest_138 : decode cX6_digest 138 = .ok (.getfield 34, 3) := by decide +kernel
theorem dX6_digest_141 : decode cX6_digest 141 = .ok (.getfield 148, 3) := by decide +kernel
theorem dX6_digest_144 : decode cX6_digest 144 = .ok (.i2l, 1) := by decide +kernel
theorem dX6_digest_145 : decode cX6_digest 145 = .ok (.ladd, 1) := by decide +kernel
theorem dX6_digest_146 : decode cX6_digest 146 = .ok (.lstore_n 1, 1) := by decide +kernel
theorem dX6_digest_147 : decode cX6_digest 147 = .ok (.iconst 0, 1) := by decide +kernel
theorem dX6_digest_148 : decode cX6_digest 148 = .ok (.istore_n 3, 1) := by decide +kernel
theorem dX6_digest_149 : decode cX6_digest 149 = .ok (.iload_n 3, 1) := by decide +kernel
theorem dX6_digest_150 : decode cX6_digest 150 = .ok (.aload_n 0, 1) := by decide +kernel
theorem dX6_digest_151 : decode cX6_digest 151 = .ok (.getfield 34, 3) := by decide +kernel
theorem dX6_digest_154 : decode cX6_digest 154 = .ok (.getfield 148, 3) := by decide +kernel
theorem dX6_digest_157 : decode cX6_digest 157 = .ok (.if_icmp .ge 26, 3) := by decide +kernel
theorem dX6_digest_160 : decode cX6_digest 160 = .ok (.ldc2_w 252, 3) := by decide +kernel
theorem dX6_digest_163 : decode cX6_digest 163 = .ok (.lload_n 1, 1) := by decide +kernel
theorem dX6_digest_164 : decode cX6_digest 164 = .ok (.lmul, 1) := by decide +kernel
theorem dX6_digest_165 : decode cX6_digest 165 = .ok (.aload_n 0, 1) := by decide +kernel
theorem dX6_digest_166 : decode cX6_digest 166 = .ok (.getfield 34, 3) := by decide +kernel
theorem dX6_digest_169 : decode cX6_digest 169 = .ok (.getfield 165, 3) := by decide +kernel
theorem dX6_digest_172 : decode cX6_digest 172 = .ok (.iload_n 3, 1) := by decide +kernel
theorem dX6_digest_173 : decode cX6_digest 173 = .ok (.iaload, 1) := by decide +kernel
theorem dX6_digest_174 : decode cX6_digest 174 = .ok (.i2l, 1) := by decide +kernel
theorem dX6_digest_175 : decode cX6_digest 175 = .ok (.ladd, 1) := by decide +kernel
theorem dX6_digest_176 : decode cX6_digest 176 = .ok (.lstore_n 1, 1) := by decide +kernel
theorem dX6_digest_177 : decode cX6_digest 177 = .ok (.iinc 3 1, 3) := by decide +kernel
theorem dX6_digest_180 : decode cX6_digest 180 = .ok (.goto (-31), 3) := by decide +kernel
theorem dX6_digest_183 : decode cX6_digest 183 = .ok (.lload_n 1, 1) := by decide +kernel
theorem dX6_digest_184 : decode cX6_digest 184 = .ok (.lreturn, 1) := by decide +kernel
theorem dX6_checkTuft_0 : decode cX6_checkTuft 0 = .ok (.iload_n 1, 1) := by decide +kernel
theorem dX6_checkTuft_1 : decode cX6_checkTuft 1 = .ok (.ifCond .lt 9, 3) := by decide +kernel
theorem dX6_checkTuft_4 : decode cX6_checkTuft 4 = .ok (.iload_n 1, 1) := by decide +kernel
theorem dX6_checkTuft_5 : decode cX6_checkTuft 5 = .ok (.bipush 64, 2) := by decide +kernel
theorem dX6_checkTuft_7 : decode cX6_checkTuft 7 = .ok (.if_icmp .lt 14, 3) := by decide +kernel
theorem dX6_checkTuft_10 : decode cX6_checkTuft 10 = .ok (.new 274, 3) := by decide +kernel
theorem dX6_checkTuft_13 : decode cX6_checkTuft 13 = .ok (.dup, 1) := by decide +kernel
theorem dX6_checkTuft_14 : decode cX6_checkTuft 14 = .ok (.ldc_w 276, 3) := by decide +kernel
theorem dX6_checkTuft_17 : decode cX6_checkTuft 17 = .ok (.invokespecial 278, 3) := by decide +kernel
theorem dX6_checkTuft_20 : decode cX6_checkTuft 20 = .ok (.athrow, 1) := by decide +kernel
theorem dX6_checkTuft_21 : decode cX6_checkTuft 21 = .ok (.return_, 1) := by decide +kernel
theorem dX6_checkMole_0 : decode cX6_checkMole 0 = .ok (.iload_n 1, 1) := by decide +kernel
theorem dX6_checkMole_1 : decode cX6_checkMole 1 = .ok (.ifCond .lt 14, 3) := by decide +kernel
theorem dX6_checkMole_4 : decode cX6_checkMole 4 = .ok (.iload_n 1, 1) := by decide +kernel
theorem dX6_checkMole_5 : decode cX6_checkMole 5 = .ok (.aload_n 0, 1) := by decide +kernel
theorem dX6_checkMole_6 : decode cX6_checkMole 6 = .ok (.getfield 15, 3) := by decide +kernel
theorem dX6_checkMole_9 : decode cX6_checkMole 9 = .ok (.getfield 56, 3) := by decide +kernel
theorem dX6_checkMole_12 : decode cX6_checkMole 12 = .ok (.if_icmp .lt 14, 3) := by decide +kernel
theorem dX6_checkMole_15 : decode cX6_checkMole 15 = .ok (.new 274, 3) := by decide +kernel
theorem dX6_checkMole_18 : decode cX6_checkMole 18 = .ok (.dup, 1) := by decide +kernel
theorem dX6_checkMole_19 : decode cX6_checkMole 19 = .ok (.ldc_w 279, 3) := by decide +kernel
theorem dX6_checkMole_22 : decode cX6_checkMole 22 = .ok (.invokespecial 278, 3) := by decide +kernel
theorem dX6_checkMole_25 : decode cX6_checkMole 25 = .ok (.athrow, 1) := by decide +kernel
theorem dX6_checkMole_26 : decode cX6_checkMole 26 = .ok (.return_, 1) := by decide +kernel
theorem dX6_checkTunnel_0 : decode cX6_checkTunnel 0 = .ok (.iload_n 1, 1) := by decide +kernel
theorem dX6_checkTunnel_1 : decode cX6_checkTunnel 1 = .ok (.ifCond .lt 17, 3) := by decide +kernel
theorem dX6_checkTunnel_4 : decode cX6_checkTunnel 4 = .ok (.iload_n 1, 1) := by decide +kernel
theorem dX6_checkTunnel_5 : decode cX6_checkTunnel 5 = .ok (.aload_n 0, 1) := by decide +kernel
theorem dX6_checkTunnel_6 : decode cX6_checkTunnel 6 = .ok (.getfield 15, 3) := by decide +kernel
theorem dX6_checkTunnel_9 : decode cX6_checkTunnel 9 = .ok (.getfield 187, 3) := by decide +kernel
theorem dX6_checkTunnel_12 : decode cX6_checkTunnel 12 = .ok (.getfield 191, 3) := by decide +kernel
theorem dX6_checkTunnel_15 : decode cX6_checkTunnel 15 = .ok (.if_icmp .lt 14, 3) := by decide +kernel
theorem dX6_checkTunnel_18 : decode cX6_checkTunnel 18 = .ok (.new 274, 3) := by decide +kernel
theorem dX6_checkTunnel_21 : decode cX6_checkTunnel 21 = .ok (.dup, 1) := by decide +kernel
theorem dX6_checkTunnel_22 : decode cX6_checkTunnel 22 = .ok (.ldc_w 281, 3) := by decide +kernel
theorem dX6_checkTunnel_25 : decode cX6_checkTunnel 25 = .ok (.invokespecial 278, 3) := by decide +kernel
theorem dX6_checkTunnel_28 : decode cX6_checkTunnel 28 = .ok (.athrow, 1) := by decide +kernel
theorem dX6_checkTunnel_29 : decode cX6_checkTunnel 29 = .ok (.return_, 1) := by decide +kernel
theorem dX6_checkBeats_0 : decode cX6_checkBeats 0 = .ok (.iload_n 1, 1) := by decide +kernel
theorem dX6_checkBeats_1 : decode cX6_checkBeats 1 = .ok (.iconst 1, 1) := by decide +kernel
theorem dX6_checkBeats_2 : decode cX6_checkBeats 2 = .ok (.if_icmp .lt 9, 3) := by decide +kernel
theorem dX6_checkBeats_5 : decode cX6_checkBeats 5 = .ok (.iload_n 1, 1) := by decide +kernel
theorem dX6_checkBeats_6 : decode cX6_checkBeats 6 = .ok (.bipush 30, 2) := by decide +kernel
theorem dX6_checkBeats_8 : decode cX6_checkBeats 8 = .ok (.if_icmp .le 14, 3) := by decide +kernel
theorem dX6_checkBeats_11 : decode cX6_checkBeats 11 = .ok (.new 81, 3) := by decide +kernel
theorem dX6_checkBeats_14 : decode cX6_checkBeats 14 = .ok (.dup, 1) := by decide +kernel
theorem dX6_checkBeats_15 : decode cX6_checkBeats 15 = .ok (.ldc_w 283, 3) := by decide +kernel
theorem dX6_checkBeats_18 : decode cX6_checkBeats 18 = .ok (.invokespecial 85, 3) := by decide +kernel
theorem dX6_checkBeats_21 : decode cX6_checkBeats 21 = .ok (.athrow, 1) := by decide +kernel
theorem dX6_checkBeats_22 : decode cX6_checkBeats 22 = .ok (.return_, 1) := by decide +kernel
theorem dX6_checkWhat_0 : decode cX6_checkWhat 0 = .ok (.iload_n 1, 1) := by decide +kernel
theorem dX6_checkWhat_1 : decode cX6_checkWhat 1 = .ok (.ifCond .lt 8, 3) := by decide +kernel
theorem dX6_checkWhat_4 : decode cX6_checkWhat 4 = .ok (.iload_n 1, 1) := by decide +kernel
theorem dX6_checkWhat_5 : decode cX6_checkWhat 5 = .ok (.iload_n 2, 1) := by decide +kernel
theorem dX6_checkWhat_6 : decode cX6_checkWhat 6 = .ok (.if_icmp .le 14, 3) := by decide +kernel
theorem dX6_checkWhat_9 : decode cX6_checkWhat 9 = .ok (.new 81, 3) := by decide +kernel
theorem dX6_checkWhat_12 : decode cX6_checkWhat 12 = .ok (.dup, 1) := by decide +kernel
theorem dX6_checkWhat_13 : decode cX6_checkWhat 13 = .ok (.ldc_w 285, 3) := by decide +kernel
theorem dX6_checkWhat_16 : decode cX6_checkWhat 16 = .ok (.invokespecial 85, 3) := by decide +kernel
theorem dX6_checkWhat_19 : decode cX6_checkWhat 19 = .ok (.athrow, 1) := by decide +kernel
theorem dX6_checkWhat_20 : decode cX6_checkWhat 20 = .ok (.return_, 1) := by decide +kernel
set_option maxRecDepth 20000 in
theorem ggX6_saveState_X0_copyFrom : GoodIn wsX6_saveState wsX0_copyFrom := goodIn_r _ [8, 9, 10, 11, 12, 13, 14, 15, 16, 17, 18, 19, 20, 21, 22, 23, 24, 25, 26, 27, 28, 29, 30, 31, 32, 33, 34, 35, 36, 37, 38, 39, 40, 41, 42, 43, 44, 45, 46, 47, 57, 58, 59, 60, 61, 62, 63, 64, 65, 66, 67, 68, 69, 70, 71, 72, 73, 74, 75, 76, 77, 78, 79, 80, 81] (by decide +kernel) (by decide +kernel)
set_option maxRecDepth 20000 in
theorem gX6_saveState_X0_copyFrom : GoodIn wsX6_saveState (wsV RX6 179 RX0 yX0_copyFrom wsX0_copyFrom) := goodIn_app (goodIn_of _ (by decide +kernel)) ggX6_saveState_X0_copyFrom
theorem dX6_saveState_0 : decode cX6_saveState 0 = .ok (.aload_n 0, 1) := by decide +kernel
theorem dX6_saveState_1 : decode cX6_saveState 1 = .ok (.getfield 174, 3) := by decide +kernel
theorem dX6_saveState_4 : decode cX6_saveState 4 = .ok (.bipush 6, 2) := by decide +kernel
theorem dX6_saveState_6 : decode cX6_saveState 6 = .ok (.if_icmp .lt 50, 3) := by decide +kernel
theorem dX6_saveState_9 : decode cX6_saveState 9 = .ok (.aload_n 0, 1) := by decide +kernel
theorem dX6_saveState_10 : decode cX6_saveState 10 = .ok (.getfield 27, 3) := by decide +kernel
theorem dX6_saveState_13 : decode cX6_saveState 13 = .ok (.iconst 0, 1) := by decide +kernel
theorem dX6_saveState_14 : decode cX6_saveState 14 = .ok (.aaload, 1) := by decide +kernel
theorem dX6_saveState_15 : decode cX6_saveState 15 = .ok (.astore_n 1, 1) := by decide +kernel
theorem dX6_saveState_16 : decode cX6_saveState 16 = .ok (.iconst 1, 1) := by decide +kernel
theorem dX6_saveState_17 : decode cX6_saveState 17 = .ok (.istore_n 2, 1) := by decide +kernel
theorem dX6_saveState_18 : decode cX6_saveState 18 = .ok (.iload_n 2, 1) := by decide +kernel
theorem dX6_saveState_19 : decode cX6_saveState 19 = .ok (.bipush 6, 2) := by decide +kernel
theorem dX6_saveState_21 : decode cX6_saveState 21 = .ok (.if_icmp .ge 23, 3) := by decide +kernel
theorem dX6_saveState_24 : decode cX6_saveState 24 = .ok (.aload_n 0, 1) := by decide +kernel
theorem dX6_saveState_25 : decode cX6_saveState 25 = .ok (.getfield 27, 3) := by decide +kernel
theorem dX6_saveState_28 : decode cX6_saveState 28 = .ok (.iload_n 2, 1) := by decide +kernel
theorem dX6_saveState_29 : decode cX6_saveState 29 = .ok (.iconst 1, 1) := by decide +kernel
theorem dX6_saveState_30 : decode cX6_saveState 30 = .ok (.isub, 1) := by decide +kernel
theorem dX6_saveState_31 : decode cX6_saveState 31 = .ok (.aload_n 0, 1) := by decide +kernel
theorem dX6_saveState_32 : decode cX6_saveState 32 = .ok (.getfield 27, 3) := by decide +kernel
theorem dX6_saveState_35 : decode cX6_saveState 35 = .ok (.iload_n 2, 1) := by decide +kernel
theorem dX6_saveState_36 : decode cX6_saveState 36 = .ok (.aaload, 1) := by decide +kernel
theorem dX6_saveState_37 : decode cX6_saveState 37 = .ok (.aastore, 1) := by decide +kernel
theorem dX6_saveState_38 : decode cX6_saveState 38 = .ok (.iinc 2 1, 3) := by decide +kernel
theorem dX6_saveState_41 : decode cX6_saveState 41 = .ok (.goto (-23), 3) := by decide +kernel
theorem dX6_saveState_44 : decode cX6_saveState 44 = .ok (.aload_n 0, 1) := by decide +kernel
theorem dX6_saveState_45 : decode cX6_saveState 45 = .ok (.getfield 27, 3) := by decide +kernel
theorem dX6_saveState_48 : decode cX6_saveState 48 = .ok (.iconst 5, 1) := by decide +kernel
theorem dX6_saveState_49 : decode cX6_saveState 49 = .ok (.aload_n 1, 1) := by decide +kernel
theorem dX6_saveState_50 : decode cX6_saveState 50 = .ok (.aastore, 1) := by decide +kernel
theorem dX6_saveState_51 : decode cX6_saveState 51 = .ok (.aload_n 0, 1) := by decide +kernel
theorem dX6_saveState_52 : decode cX6_saveState 52 = .ok (.iconst 5, 1) := by decide +kernel
theorem dX6_saveState_53 : decode cX6_saveState 53 = .ok (.putfield 174, 3) := by decide +kernel
theorem dX6_saveState_56 : decode cX6_saveState 56 = .ok (.aload_n 0, 1) := by decide +kernel
theorem dX6_saveState_57 : decode cX6_saveState 57 = .ok (.getfield 27, 3) := by decide +kernel
theorem dX6_saveState_60 : decode cX6_saveState 60 = .ok (.aload_n 0, 1) := by decide +kernel
theorem dX6_saveState_61 : decode cX6_saveState 61 = .ok (.getfield 174, 3) := by decide +kernel
theorem dX6_saveState_64 : decode cX6_saveState 64 = .ok (.aaload, 1) := by decide +kernel
theorem dX6_saveState_65 : decode cX6_saveState 65 = .ok (.aload_n 0, 1) := by decide +kernel
theorem dX6_saveState_66 : decode cX6_saveState 66 = .ok (.getfield 15, 3) := by decide +kernel
theorem dX6_saveState_69 : decode cX6_saveState 69 = .ok (.invokevirtual 179, 3) := by decide +kernel
theorem dX6_saveState_72 : decode cX6_saveState 72 = .ok (.aload_n 0, 1) := by decide +kernel
theorem dX6_saveState_73 : decode cX6_saveState 73 = .ok (.dup, 1) := by decide +kernel
theorem dX6_saveState_74 : decode cX6_saveState 74 = .ok (.getfield 174, 3) := by decide +kernel
theorem dX6_saveState_77 : decode cX6_saveState 77 = .ok (.iconst 1, 1) := by decide +kernel
theorem dX6_saveState_78 : decode cX6_saveState 78 = .ok (.iadd, 1) := by decide +kernel
theorem dX6_saveState_79 : decode cX6_saveState 79 = .ok (.putfield 174, 3) := by decide +kernel
theorem dX6_saveState_82 : decode cX6_saveState 82 = .ok (.return_, 1) := by decide +kernel
set_option maxRecDepth 20000 in
theorem ggX6_numberOfTuft_X4_countBeside : GoodIn wsX6_numberOfTuft wsX4_countBeside := goodIn_r _ [14, 15, 16, 17, 18, 19, 20, 21, 22] (by decide +kernel) (by decide +kernel)
set_option maxRecDepth 20000 in
theorem gX6_numberOfTuft_X4_countBeside : GoodIn wsX6_numberOfTuft (wsV RX6 290 RX4 yX4_countBeside wsX4_countBeside) := goodIn_app (goodIn_of _ (by decide +kernel)) ggX6_numberOfTuft_X4_countBeside
set_option maxRecDepth 20000 in
theorem ggX6_numberOfTuft_X0_molesAt : GoodIn wsX6_numberOfTuft wsX0_molesAt := goodIn_r _ [27, 28, 29, 30, 31, 32, 33, 34, 35, 36, 46, 47, 48, 49, 50, 51, 52, 53, 54, 55, 56, 57, 58, 59, 64, 65, 66, 67, 68, 69, 70] (by decide +kernel) (by decide +kernel)
set_option maxRecDepth 20000 in
theorem gX6_numberOfTuft_X0_molesAt : GoodIn wsX6_numberOfTuft (wsV RX6 303 RX0 yX0_molesAt wsX0_molesAt) := goodIn_app (goodIn_of _ (by decide +kernel)) ggX6_numberOfTuft_X0_molesAt
theorem dX6_numberOfTuft_0 : decode cX6_numberOfTuft 0 = .ok (.iload_n 2, 1) := by decide +kernel
theorem dX6_numberOfTuft_1 : decode cX6_numberOfTuft 1 = .ok (.tableswitch 150 0 7 #[47, 65, 75, 85, 95, 112, 130, 140], 47) := by decide +kernel
theorem dX6_numberOfTuft_48 : decode cX6_numberOfTuft 48 = .ok (.aload_n 0, 1) := by decide +kernel
theorem dX6_numberOfTuft_49 : decode cX6_numberOfTuft 49 = .ok (.getfield 15, 3) := by decide +kernel
theorem dX6_numberOfTuft_52 : decode cX6_numberOfTuft 52 = .ok (.getfield 125, 3) := by decide +kernel
theorem dX6_numberOfTuft_55 : decode cX6_numberOfTuft 55 = .ok (.iload_n 1, 1) := by decide +kernel
theorem dX6_numberOfTuft_56 : decode cX6_numberOfTuft 56 = .ok (.baload, 1) := by decide +kernel
theorem dX6_numberOfTuft_57 : decode cX6_numberOfTuft 57 = .ok (.ifCond .eq 7, 3) := by decide +kernel
theorem dX6_numberOfTuft_60 : decode cX6_numberOfTuft 60 = .ok (.iconst 1, 1) := by decide +kernel
theorem dX6_numberOfTuft_61 : decode cX6_numberOfTuft 61 = .ok (.goto 4, 3) := by decide +kernel
theorem dX6_numberOfTuft_64 : decode cX6_numberOfTuft 64 = .ok (.iconst 0, 1) := by decide +kernel
theorem dX6_numberOfTuft_65 : decode cX6_numberOfTuft 65 = .ok (.ireturn, 1) := by decide +kernel
theorem dX6_numberOfTuft_66 : decode cX6_numberOfTuft 66 = .ok (.aload_n 0, 1) := by decide +kernel
theorem dX6_numberOfTuft_67 : decode cX6_numberOfTuft 67 = .ok (.getfield 15, 3) := by decide +kernel
theorem dX6_numberOfTuft_70 : decode cX6_numberOfTuft 70 = .ok (.getfield 60, 3) := by decide +kernel
theorem dX6_numberOfTuft_73 : decode cX6_numberOfTuft 73 = .ok (.iload_n 1, 1) := by decide +kernel
theorem dX6_numberOfTuft_74 : decode cX6_numberOfTuft 74 = .ok (.iaload, 1) := by decide +kernel
theorem dX6_numberOfTuft_75 : decode cX6_numberOfTuft 75 = .ok (.ireturn, 1) := by decide +kernel
theorem dX6_numberOfTuft_76 : decode cX6_numberOfTuft 76 = .ok (.aload_n 0, 1) := by decide +kernel
theorem dX6_numberOfTuft_77 : decode cX6_numberOfTuft 77 = .ok (.getfield 15, 3) := by decide +kernel
theorem dX6_numberOfTuft_80 : decode cX6_numberOfTuft 80 = .ok (.getfield 113, 3) := by decide +kernel
theorem dX6_numberOfTuft_83 : decode cX6_numberOfTuft 83 = .ok (.iload_n 1, 1) := by decide +kernel
theorem dX6_numberOfTuft_84 : decode cX6_numberOfTuft 84 = .ok (.iaload, 1) := by decide +kernel
theorem dX6_numberOfTuft_85 : decode cX6_numberOfTuft 85 = .ok (.ireturn, 1) := by decide +kernel
theorem dX6_numberOfTuft_86 : decode cX6_numberOfTuft 86 = .ok (.aload_n 0, 1) := by decide +kernel
theorem dX6_numberOfTuft_87 : decode cX6_numberOfTuft 87 = .ok (.getfield 41, 3) := by decide +kernel
theorem dX6_numberOfTuft_90 : decode cX6_numberOfTuft 90 = .ok (.getfield 287, 3) := by decide +kernel
theorem dX6_numberOfTuft_93 : decode cX6_numberOfTuft 93 = .ok (.iload_n 1, 1) := by decide +kernel
theorem dX6_numberOfTuft_94 : decode cX6_numberOfTuft 94 = .ok (.iaload, 1) := by decide +kernel
theorem dX6_numberOfTuft_95 : decode cX6_numberOfTuft 95 = .ok (.ireturn, 1) := by decide +kernel
theorem dX6_numberOfTuft_96 : decode cX6_numberOfTuft 96 = .ok (.aload_n 0, 1) := by decide +kernel
theorem dX6_numberOfTuft_97 : decode cX6_numberOfTuft 97 = .ok (.getfield 41, 3) := by decide +kernel
theorem dX6_numberOfTuft_100 : decode cX6_numberOfTuft 100 = .ok (.aload_n 0, 1) := by decide +kernel
theorem dX6_numberOfTuft_101 : decode cX6_numberOfTuft 101 = .ok (.getfield 41, 3) := by decide +kernel
theorem dX6_numberOfTuft_104 : decode cX6_numberOfTuft 104 = .ok (.getfield 287, 3) := by decide +kernel
theorem dX6_numberOfTuft_107 : decode cX6_numberOfTuft 107 = .ok (.iload_n 1, 1) := by decide +kernel
theorem dX6_numberOfTuft_108 : decode cX6_numberOfTuft 108 = .ok (.iconst 1, 1) := by decide +kernel
theorem dX6_numberOfTuft_109 : decode cX6_numberOfTuft 109 = .ok (.invokevirtual 290, 3) := by decide +kernel
theorem dX6_numberOfTuft_112 : decode cX6_numberOfTuft 112 = .ok (.ireturn, 1) := by decide +kernel
theorem dX6_numberOfTuft_113 : decode cX6_numberOfTuft 113 = .ok (.aload_n 0, 1) := by decide +kernel
theorem dX6_numberOfTuft_114 : decode cX6_numberOfTuft 114 = .ok (.getfield 15, 3) := by decide +kernel
theorem dX6_numberOfTuft_117 : decode cX6_numberOfTuft 117 = .ok (.getfield 294, 3) := by decide +kernel
theorem dX6_numberOfTuft_120 : decode cX6_numberOfTuft 120 = .ok (.iload_n 1, 1) := by decide +kernel
theorem dX6_numberOfTuft_121 : decode cX6_numberOfTuft 121 = .ok (.baload, 1) := by decide +kernel
theorem dX6_numberOfTuft_122 : decode cX6_numberOfTuft 122 = .ok (.ifCond .eq 7, 3) := by decide +kernel
theorem dX6_numberOfTuft_125 : decode cX6_numberOfTuft 125 = .ok (.iconst 1, 1) := by decide +kernel
theorem dX6_numberOfTuft_126 : decode cX6_numberOfTuft 126 = .ok (.goto 4, 3) := by decide +kernel
theorem dX6_numberOfTuft_129 : decode cX6_numberOfTuft 129 = .ok (.iconst 0, 1) := by decide +kernel
theorem dX6_numberOfTuft_130 : decode cX6_numberOfTuft 130 = .ok (.ireturn, 1) := by decide +kernel
theorem dX6_numberOfTuft_131 : decode cX6_numberOfTuft 131 = .ok (.aload_n 0, 1) := by decide +kernel
theorem dX6_numberOfTuft_132 : decode cX6_numberOfTuft 132 = .ok (.getfield 41, 3) := by decide +kernel
theorem dX6_numberOfTuft_135 : decode cX6_numberOfTuft 135 = .ok (.getfield 297, 3) := by decide +kernel
theorem dX6_numberOfTuft_138 : decode cX6_numberOfTuft 138 = .ok (.iload_n 1, 1) := by decide +kernel
theorem dX6_numberOfTuft_139 : decode cX6_numberOfTuft 139 = .ok (.iaload, 1) := by decide +kernel
theorem dX6_numberOfTuft_140 : decode cX6_numberOfTuft 140 = .ok (.ireturn, 1) := by decide +kernel
theorem dX6_numberOfTuft_141 : decode cX6_numberOfTuft 141 = .ok (.aload_n 0, 1) := by decide +kernel
theorem dX6_numberOfTuft_142 : decode cX6_numberOfTuft 142 = .ok (.getfield 41, 3) := by decide +kernel
theorem dX6_numberOfTuft_145 : decode cX6_numberOfTuft 145 = .ok (.getfield 300, 3) := by decide +kernel
theorem dX6_numberOfTuft_148 : decode cX6_numberOfTuft 148 = .ok (.iload_n 1, 1) := by decide +kernel
theorem dX6_numberOfTuft_149 : decode cX6_numberOfTuft 149 = .ok (.iaload, 1) := by decide +kernel
theorem dX6_numberOfTuft_150 : decode cX6_numberOfTuft 150 = .ok (.ireturn, 1) := by decide +kernel
theorem dX6_numberOfTuft_151 : decode cX6_numberOfTuft 151 = .ok (.aload_n 0, 1) := by decide +kernel
theorem dX6_numberOfTuft_152 : decode cX6_numberOfTuft 152 = .ok (.getfield 15, 3) := by decide +kernel
theorem dX6_numberOfTuft_155 : decode cX6_numberOfTuft 155 = .ok (.iload_n 1, 1) := by decide +kernel
theorem dX6_numberOfTuft_156 : decode cX6_numberOfTuft 156 = .ok (.invokevirtual 303, 3) := by decide +kernel
theorem dX6_numberOfTuft_159 : decode cX6_numberOfTuft 159 = .ok (.ireturn, 1) := by decide +kernel
set_option maxRecDepth 20000 in
theorem ggX6_numberOfAll_X0_moundCount : GoodIn wsX6_numberOfAll wsX0_moundCount := goodIn_r _ [18, 19, 90, 91, 92, 93, 94, 95, 96, 97, 98, 99, 100, 101, 102, 103] (by decide +kernel) (by decide +kernel)
set_option maxRecDepth 20000 in
theorem gX6_numberOfAll_X0_moundCount : GoodIn wsX6_numberOfAll (wsV RX6 312 RX0 yX0_moundCount wsX0_moundCount) := goodIn_app (goodIn_of _ (by decide +kernel)) ggX6_numberOfAll_X0_moundCount
set_option maxRecDepth 20000 in
theorem ggX6_numberOfAll_X4_hollowCount : GoodIn wsX6_numberOfAll wsX4_hollowCount := goodIn_r _ [24, 25, 108, 109, 110, 111] (by decide +kernel) (by decide +kernel)
set_option maxRecDepth 20000 in
theorem gX6_numberOfAll_X4_hollowCount : GoodIn wsX6_numberOfAll (wsV RX6 233 RX4 yX4_hollowCount wsX4_hollowCount) := goodIn_app (goodIn_of _ (by decide +kernel)) ggX6_numberOfAll_X4_hollowCount
set_option maxRecDepth 20000 in
theorem ggX6_numberOfAll_X0_openedCount : GoodIn wsX6_numberOfAll wsX0_openedCount := goodIn_r _ [29, 30, 90, 91, 92, 93, 94, 95, 96, 97, 98, 99, 100, 101, 102, 103] (by decide +kernel) (by decide +kernel)
set_option maxRecDepth 20000 in
theorem gX6_numberOfAll_X0_openedCount : GoodIn wsX6_numberOfAll (wsV RX6 315 RX0 yX0_openedCount wsX0_openedCount) := goodIn_app (goodIn_of _ (by decide +kernel)) ggX6_numberOfAll_X0_openedCount
set_option maxRecDepth 20000 in
theorem ggX6_numberOfAll_X0_trapCount : GoodIn wsX6_numberOfAll wsX0_trapCount := goodIn_r _ [34, 35, 90, 91, 92, 93, 94, 95, 96, 97, 98, 99, 100, 101, 102, 103] (by decide +kernel) (by decide +kernel)
set_option maxRecDepth 20000 in
theorem gX6_numberOfAll_X0_trapCount : GoodIn wsX6_numberOfAll (wsV RX6 118 RX0 yX0_trapCount wsX0_trapCount) := goodIn_app (goodIn_of _ (by decide +kernel)) ggX6_numberOfAll_X0_trapCount
set_option maxRecDepth 20000 in
theorem ggX6_numberOfAll_X0_rootCount : GoodIn wsX6_numberOfAll wsX0_rootCount := goodIn_r _ [39, 40, 90, 91, 92, 93, 94, 95, 96, 97, 98, 99, 100, 101, 102, 103] (by decide +kernel) (by decide +kernel)
set_option maxRecDepth 20000 in
theorem gX6_numberOfAll_X0_rootCount : GoodIn wsX6_numberOfAll (wsV RX6 318 RX0 yX0_rootCount wsX0_rootCount) := goodIn_app (goodIn_of _ (by decide +kernel)) ggX6_numberOfAll_X0_rootCount
set_option maxRecDepth 20000 in
theorem ggX6_numberOfAll_X2_groupCount : GoodIn wsX6_numberOfAll wsX2_groupCount := goodIn_r _ [45, 46, 47, 48, 49, 15, 16, 17, 18, 19, 50, 51, 52, 53, 54, 55, 56, 57, 58, 59, 60, 61, 62, 63, 64, 65, 66, 67, 68, 69, 70, 71, 72, 73, 74, 75, 44, 76, 77, 78, 79, 80, 112, 113, 90, 91, 92, 93, 94, 95, 96, 97, 98, 99, 100, 101, 102, 103, 104, 105, 106, 107] (by decide +kernel) (by decide +kernel)
set_option maxRecDepth 20000 in
theorem gX6_numberOfAll_X2_groupCount : GoodIn wsX6_numberOfAll (wsV RX6 324 RX2 yX2_groupCount wsX2_groupCount) := goodIn_app (goodIn_of _ (by decide +kernel)) ggX6_numberOfAll_X2_groupCount
theorem dX6_numberOfAll_0 : decode cX6_numberOfAll 0 = .ok (.iload_n 1, 1) := by decide +kernel
theorem dX6_numberOfAll_1 : decode cX6_numberOfAll 1 = .ok (.tableswitch 190 0 13 #[71, 79, 87, 95, 103, 114, 122, 130, 138, 146, 154, 162, 170, 182], 71) := by decide +kernel
theorem dX6_numberOfAll_72 : decode cX6_numberOfAll 72 = .ok (.aload_n 0, 1) := by decide +kernel
theorem dX6_numberOfAll_73 : decode cX6_numberOfAll 73 = .ok (.getfield 15, 3) := by decide +kernel
theorem dX6_numberOfAll_76 : decode cX6_numberOfAll 76 = .ok (.getfield 306, 3) := by decide +kernel
theorem dX6_numberOfAll_79 : decode cX6_numberOfAll 79 = .ok (.ireturn, 1) := by decide +kernel
theorem dX6_numberOfAll_80 : decode cX6_numberOfAll 80 = .ok (.aload_n 0, 1) := by decide +kernel
theorem dX6_numberOfAll_81 : decode cX6_numberOfAll 81 = .ok (.getfield 15, 3) := by decide +kernel
theorem dX6_numberOfAll_84 : decode cX6_numberOfAll 84 = .ok (.getfield 56, 3) := by decide +kernel
theorem dX6_numberOfAll_87 : decode cX6_numberOfAll 87 = .ok (.ireturn, 1) := by decide +kernel
theorem dX6_numberOfAll_88 : decode cX6_numberOfAll 88 = .ok (.aload_n 0, 1) := by decide +kernel
theorem dX6_numberOfAll_89 : decode cX6_numberOfAll 89 = .ok (.getfield 15, 3) := by decide +kernel
theorem dX6_numberOfAll_92 : decode cX6_numberOfAll 92 = .ok (.getfield 309, 3) := by decide +kernel
theorem dX6_numberOfAll_95 : decode cX6_numberOfAll 95 = .ok (.ireturn, 1) := by decide +kernel
theorem dX6_numberOfAll_96 : decode cX6_numberOfAll 96 = .ok (.aload_n 0, 1) := by decide +kernel
theorem dX6_numberOfAll_97 : decode cX6_numberOfAll 97 = .ok (.getfield 15, 3) := by decide +kernel
theorem dX6_numberOfAll_100 : decode cX6_numberOfAll 100 = .ok (.invokevirtual 312, 3) := by decide +kernel
theorem dX6_numberOfAll_103 : decode cX6_numberOfAll 103 = .ok (.ireturn, 1) := by decide +kernel
theorem dX6_numberOfAll_104 : decode cX6_numberOfAll 104 = .ok (.aload_n 0, 1) := by decide +kernel
theorem dX6_numberOfAll_105 : decode cX6_numberOfAll 105 = .ok (.getfield 15, 3) := by decide +kernel
theorem dX6_numberOfAll_108 : decode cX6_numberOfAll 108 = .ok (.getfield 187, 3) := by decide +kernel
theorem dX6_numberOfAll_111 : decode cX6_numberOfAll 111 = .ok (.getfield 191, 3) := by decide +kernel
theorem dX6_numberOfAll_114 : decode cX6_numberOfAll 114 = .ok (.ireturn, 1) := by decide +kernel
theorem dX6_numberOfAll_115 : decode cX6_numberOfAll 115 = .ok (.aload_n 0, 1) := by decide +kernel
theorem dX6_numberOfAll_116 : decode cX6_numberOfAll 116 = .ok (.getfield 41, 3) := by decide +kernel
theorem dX6_numberOfAll_119 : decode cX6_numberOfAll 119 = .ok (.invokevirtual 233, 3) := by decide +kernel
theorem dX6_numberOfAll_122 : decode cX6_numberOfAll 122 = .ok (.ireturn, 1) := by decide +kernel
theorem dX6_numberOfAll_123 : decode cX6_numberOfAll 123 = .ok (.aload_n 0, 1) := by decide +kernel
theorem dX6_numberOfAll_124 : decode cX6_numberOfAll 124 = .ok (.getfield 15, 3) := by decide +kernel
theorem dX6_numberOfAll_127 : decode cX6_numberOfAll 127 = .ok (.invokevirtual 315, 3) := by decide +kernel
theorem dX6_numberOfAll_130 : decode cX6_numberOfAll 130 = .ok (.ireturn, 1) := by decide +kernel
theorem dX6_numberOfAll_131 : decode cX6_numberOfAll 131 = .ok (.aload_n 0, 1) := by decide +kernel
theorem dX6_numberOfAll_132 : decode cX6_numberOfAll 132 = .ok (.getfield 15, 3) := by decide +kernel
theorem dX6_numberOfAll_135 : decode cX6_numberOfAll 135 = .ok (.invokevirtual 118, 3) := by decide +kernel
theorem dX6_numberOfAll_138 : decode cX6_numberOfAll 138 = .ok (.ireturn, 1) := by decide +kernel
theorem dX6_numberOfAll_139 : decode cX6_numberOfAll 139 = .ok (.aload_n 0, 1) := by decide +kernel
theorem dX6_numberOfAll_140 : decode cX6_numberOfAll 140 = .ok (.getfield 15, 3) := by decide +kernel
theorem dX6_numberOfAll_143 : decode cX6_numberOfAll 143 = .ok (.invokevirtual 318, 3) := by decide +kernel
theorem dX6_numberOfAll_146 : decode cX6_numberOfAll 146 = .ok (.ireturn, 1) := by decide +kernel
theorem dX6_numberOfAll_147 : decode cX6_numberOfAll 147 = .ok (.aload_n 0, 1) := by decide +kernel
theorem dX6_numberOfAll_148 : decode cX6_numberOfAll 148 = .ok (.getfield 15, 3) := by decide +kernel
theorem dX6_numberOfAll_151 : decode cX6_numberOfAll 151 = .ok (.getfield 321, 3) := by decide +kernel
theorem dX6_numberOfAll_154 : decode cX6_numberOfAll 154 = .ok (.ireturn, 1) := by decide +kernel
theorem dX6_numberOfAll_155 : decode cX6_numberOfAll 155 = .ok (.aload_n 0, 1) := by decide +kernel
theorem dX6_numberOfAll_156 : decode cX6_numberOfAll 156 = .ok (.getfield 15, 3) := by decide +kernel
theorem dX6_numberOfAll_159 : decode cX6_numberOfAll 159 = .ok (.getfield 103, 3) := by decide +kernel
theorem dX6_numberOfAll_162 : decode cX6_numberOfAll 162 = .ok (.ireturn, 1) := by decide +kernel
theorem dX6_numberOfAll_163 : decode cX6_numberOfAll 163 = .ok (.aload_n 0, 1) := by decide +kernel
theorem dX6_numberOfAll_164 : decode cX6_numberOfAll 164 = .ok (.getfield 15, 3) := by decide +kernel
theorem dX6_numberOfAll_167 : decode cX6_numberOfAll 167 = .ok (.getfield 230, 3) := by decide +kernel
theorem dX6_numberOfAll_170 : decode cX6_numberOfAll 170 = .ok (.ireturn, 1) := by decide +kernel
theorem dX6_numberOfAll_171 : decode cX6_numberOfAll 171 = .ok (.aload_n 0, 1) := by decide +kernel
theorem dX6_numberOfAll_172 : decode cX6_numberOfAll 172 = .ok (.getfield 48, 3) := by decide +kernel
theorem dX6_numberOfAll_175 : decode cX6_numberOfAll 175 = .ok (.aload_n 0, 1) := by decide +kernel
theorem dX6_numberOfAll_176 : decode cX6_numberOfAll 176 = .ok (.getfield 15, 3) := by decide +kernel
theorem dX6_numberOfAll_179 : decode cX6_numberOfAll 179 = .ok (.invokevirtual 324, 3) := by decide +kernel
theorem dX6_numberOfAll_182 : decode cX6_numberOfAll 182 = .ok (.ireturn, 1) := by decide +kernel
theorem dX6_numberOfAll_183 : decode cX6_numberOfAll 183 = .ok (.aload_n 0, 1) := by decide +kernel
theorem dX6_numberOfAll_184 : decode cX6_numberOfAll 184 = .ok (.getfield 15, 3) := by decide +kernel
theorem dX6_numberOfAll_187 : decode cX6_numberOfAll 187 = .ok (.getfield 140, 3) := by decide +kernel
theorem dX6_numberOfAll_190 : decode cX6_numberOfAll 190 = .ok (.ireturn, 1) := by decide +kernel
theorem dX6_numberOfAll_191 : decode cX6_numberOfAll 191 = .ok (.aload_n 0, 1) := by decide +kernel
theorem dX6_numberOfAll_192 : decode cX6_numberOfAll 192 = .ok (.getfield 174, 3) := by decide +kernel
theorem dX6_numberOfAll_195 : decode cX6_numberOfAll 195 = .ok (.ireturn, 1) := by decide +kernel
theorem dX6_mostCrossed_0 : decode cX6_mostCrossed 0 = .ok (.iconst (-1), 1) := by decide +kernel
theorem dX6_mostCrossed_1 : decode cX6_mostCrossed 1 = .ok (.istore_n 1, 1) := by decide +kernel
theorem dX6_mostCrossed_2 : decode cX6_mostCrossed 2 = .ok (.iconst 0, 1) := by decide +kernel
theorem dX6_mostCrossed_3 : decode cX6_mostCrossed 3 = .ok (.istore_n 2, 1) := by decide +kernel
theorem dX6_mostCrossed_4 : decode cX6_mostCrossed 4 = .ok (.iconst 0, 1) := by decide +kernel
theorem dX6_mostCrossed_5 : decode cX6_mostCrossed 5 = .ok (.istore_n 3, 1) := by decide +kernel
theorem dX6_mostCrossed_6 : decode cX6_mostCrossed 6 = .ok (.iload_n 3, 1) := by decide +kernel
theorem dX6_mostCrossed_7 : decode cX6_mostCrossed 7 = .ok (.bipush 64, 2) := by decide +kernel
theorem dX6_mostCrossed_9 : decode cX6_mostCrossed 9 = .ok (.if_icmp .ge 46, 3) := by decide +kernel
theorem dX6_mostCrossed_12 : decode cX6_mostCrossed 12 = .ok (.aload_n 0, 1) := by decide +kernel
theorem dX6_mostCrossed_13 : decode cX6_mostCrossed 13 = .ok (.getfield 15, 3) := by decide +kernel
theorem dX6_mostCrossed_16 : decode cX6_mostCrossed 16 = .ok (.getfield 294, 3) := by decide +kernel
theorem dX6_mostCrossed_19 : decode cX6_mostCrossed 19 = .ok (.iload_n 3, 1) := by decide +kernel
theorem dX6_mostCrossed_20 : decode cX6_mostCrossed 20 = .ok (.baload, 1) := by decide +kernel
theorem dX6_mostCrossed_21 : decode cX6_mostCrossed 21 = .ok (.ifCond .ne 28, 3) := by decide +kernel
theorem dX6_mostCrossed_24 : decode cX6_mostCrossed 24 = .ok (.aload_n 0, 1) := by decide +kernel
theorem dX6_mostCrossed_25 : decode cX6_mostCrossed 25 = .ok (.getfield 41, 3) := by decide +kernel
theorem dX6_mostCrossed_28 : decode cX6_mostCrossed 28 = .ok (.getfield 300, 3) := by decide +kernel
theorem dX6_mostCrossed_31 : decode cX6_mostCrossed 31 = .ok (.iload_n 3, 1) := by decide +kernel
theorem dX6_mostCrossed_32 : decode cX6_mostCrossed 32 = .ok (.iaload, 1) := by decide +kernel
theorem dX6_mostCrossed_33 : decode cX6_mostCrossed 33 = .ok (.iload_n 2, 1) := by decide +kernel
theorem dX6_mostCrossed_34 : decode cX6_mostCrossed 34 = .ok (.if_icmp .le 15, 3) := by decide +kernel
theorem dX6_mostCrossed_37 : decode cX6_mostCrossed 37 = .ok (.aload_n 0, 1) := by decide +kernel
theorem dX6_mostCrossed_38 : decode cX6_mostCrossed 38 = .ok (.getfield 41, 3) := by decide +kernel
theorem dX6_mostCrossed_41 : decode cX6_mostCrossed 41 = .ok (.getfield 300, 3) := by decide +kernel
theorem dX6_mostCrossed_44 : decode cX6_mostCrossed 44 = .ok (.iload_n 3, 1) := by decide +kernel
theorem dX6_mostCrossed_45 : decode cX6_mostCrossed 45 = .ok (.iaload, 1) := by decide +kernel
theorem dX6_mostCrossed_46 : decode cX6_mostCrossed 46 = .ok (.istore_n 2, 1) := by decide +kernel
theorem dX6_mostCrossed_47 : decode cX6_mostCrossed 47 = .ok (.iload_n 3, 1) := by decide +kernel
theorem dX6_mostCrossed_48 : decode cX6_mostCrossed 48 = .ok (.istore_n 1, 1) := by decide +kernel
theorem dX6_mostCrossed_49 : decode cX6_mostCrossed 49 = .ok (.iinc 3 1, 3) := by decide +kernel
theorem dX6_mostCrossed_52 : decode cX6_mostCrossed 52 = .ok (.goto (-46), 3) := by decide +kernel
theorem dX6_mostCrossed_55 : decode cX6_mostCrossed 55 = .ok (.iload_n 1, 1) := by decide +kernel
theorem dX6_mostCrossed_56 : decode cX6_mostCrossed 56 = .ok (.ireturn, 1) := by decide +kernel
set_option maxRecDepth 20000 in
theorem ggX6_tryBeats_X0_copyFrom : GoodIn wsX6_tryBeats wsX0_copyFrom := goodIn_r _ [7, 8, 9, 10, 11, 12, 13, 14, 15, 16, 17, 18, 19, 20, 21, 22, 23, 24, 25, 26, 27, 28, 29, 30, 31, 32, 33, 34, 35, 36, 37, 38, 39, 40, 41, 42, 43, 44, 45, 46, 145, 146, 147, 148, 149, 150, 151, 152, 153, 154, 155, 156, 157, 158, 159, 160, 161, 162, 163, 164, 165, 166, 167, 168, 169] (by decide +kernel) (by decide +kernel)
set_option maxRecDepth 20000 in
theorem gX6_tryBeats_X0_copyFrom : GoodIn wsX6_tryBeats (wsV RX6 179 RX0 yX0_copyFrom wsX0_copyFrom) := goodIn_app (goodIn_of _ (by decide +kernel)) ggX6_tryBeats_X0_copyFrom
set_option maxRecDepth 20000 in
theorem ggX6_tryBeats_X0_beat : GoodIn wsX6_tryBeats wsX0_beat := goodIn_r _ [50, 20, 15, 17, 51, 52, 53, 6, 54, 18, 55, 56, 57, 14, 22, 8, 19, 58, 59, 60, 38, 61, 46, 41, 62, 63, 64, 65, 66, 67, 68, 69, 70, 71, 72, 73, 40, 44, 74, 75, 76, 77, 43, 78, 79, 80, 81, 21, 82, 83, 84, 85, 16, 86, 87, 88, 89, 90, 91, 92, 93, 28, 94, 31, 34, 32, 30, 33, 10, 11, 12, 95, 96, 97, 98, 99, 100, 101, 102, 23, 103, 104, 105, 106, 107, 108, 109, 110, 111, 112, 113, 114, 115, 116, 117, 118, 119, 120, 121, 122, 123, 124, 125, 126, 127, 128, 129, 130, 131, 25, 26, 27, 29, 132, 133, 134, 135, 145, 146, 147, 148, 149, 150, 151, 152, 153, 154, 155, 156, 157, 158, 163, 164, 165, 166, 167, 168, 169, 159, 160, 161, 162] (by decide +kernel) (by decide +kernel)
set_option maxRecDepth 20000 in
theorem gX6_tryBeats_X0_beat : GoodIn wsX6_tryBeats (wsV RX6 106 RX0 yX0_beat wsX0_beat) := goodIn_app (goodIn_of _ (by decide +kernel)) ggX6_tryBeats_X0_beat
theorem dX6_tryBeats_0 : decode cX6_tryBeats 0 = .ok (.aload_n 0, 1) := by decide +kernel
theorem dX6_tryBeats_1 : decode cX6_tryBeats 1 = .ok (.getfield 24, 3) := by decide +kernel
theorem dX6_tryBeats_4 : decode cX6_tryBeats 4 = .ok (.aload_n 0, 1) := by decide +kernel
theorem dX6_tryBeats_5 : decode cX6_tryBeats 5 = .ok (.getfield 15, 3) := by decide +kernel
theorem dX6_tryBeats_8 : decode cX6_tryBeats 8 = .ok (.invokevirtual 179, 3) := by decide +kernel
theorem dX6_tryBeats_11 : decode cX6_tryBeats 11 = .ok (.iconst 0, 1) := by decide +kernel
theorem dX6_tryBeats_12 : decode cX6_tryBeats 12 = .ok (.istore_n 2, 1) := by decide +kernel
theorem dX6_tryBeats_13 : decode cX6_tryBeats 13 = .ok (.iload_n 2, 1) := by decide +kernel
theorem dX6_tryBeats_14 : decode cX6_tryBeats 14 = .ok (.iload_n 1, 1) := by decide +kernel
theorem dX6_tryBeats_15 : decode cX6_tryBeats 15 = .ok (.if_icmp .ge 16, 3) := by decide +kernel
theorem dX6_tryBeats_18 : decode cX6_tryBeats 18 = .ok (.aload_n 0, 1) := by decide +kernel
theorem dX6_tryBeats_19 : decode cX6_tryBeats 19 = .ok (.getfield 24, 3) := by decide +kernel
theorem dX6_tryBeats_22 : decode cX6_tryBeats 22 = .ok (.invokevirtual 106, 3) := by decide +kernel
theorem dX6_tryBeats_25 : decode cX6_tryBeats 25 = .ok (.iinc 2 1, 3) := by decide +kernel
theorem dX6_tryBeats_28 : decode cX6_tryBeats 28 = .ok (.goto (-15), 3) := by decide +kernel
theorem dX6_tryBeats_31 : decode cX6_tryBeats 31 = .ok (.return_, 1) := by decide +kernel
theorem dX6_numberOfTrial_0 : decode cX6_numberOfTrial 0 = .ok (.iload_n 1, 1) := by decide +kernel
theorem dX6_numberOfTrial_1 : decode cX6_numberOfTrial 1 = .ok (.lookupswitch 54 #[(0, 27), (1, 43)], 27) := by decide +kernel
theorem dX6_numberOfTrial_28 : decode cX6_numberOfTrial 28 = .ok (.aload_n 0, 1) := by decide +kernel
theorem dX6_numberOfTrial_29 : decode cX6_numberOfTrial 29 = .ok (.getfield 24, 3) := by decide +kernel
theorem dX6_numberOfTrial_32 : decode cX6_numberOfTrial 32 = .ok (.getfield 103, 3) := by decide +kernel
theorem dX6_numberOfTrial_35 : decode cX6_numberOfTrial 35 = .ok (.aload_n 0, 1) := by decide +kernel
theorem dX6_numberOfTrial_36 : decode cX6_numberOfTrial 36 = .ok (.getfield 15, 3) := by decide +kernel
theorem dX6_numberOfTrial_39 : decode cX6_numberOfTrial 39 = .ok (.getfield 103, 3) := by decide +kernel
theorem dX6_numberOfTrial_42 : decode cX6_numberOfTrial 42 = .ok (.isub, 1) := by decide +kernel
theorem dX6_numberOfTrial_43 : decode cX6_numberOfTrial 43 = .ok (.ireturn, 1) := by decide +kernel
theorem dX6_numberOfTrial_44 : decode cX6_numberOfTrial 44 = .ok (.aload_n 0, 1) := by decide +kernel
theorem dX6_numberOfTrial_45 : decode cX6_numberOfTrial 45 = .ok (.getfield 24, 3) := by decide +kernel
theorem dX6_numberOfTrial_48 : decode cX6_numberOfTrial 48 = .ok (.getfield 187, 3) := by decide +kernel
theorem dX6_numberOfTrial_51 : decode cX6_numberOfTrial 51 = .ok (.getfield 191, 3) := by decide +kernel
theorem dX6_numberOfTrial_54 : decode cX6_numberOfTrial 54 = .ok (.ireturn, 1) := by decide +kernel
theorem dX6_numberOfTrial_55 : decode cX6_numberOfTrial 55 = .ok (.aload_n 0, 1) := by decide +kernel
theorem dX6_numberOfTrial_56 : decode cX6_numberOfTrial 56 = .ok (.getfield 24, 3) := by decide +kernel
theorem dX6_numberOfTrial_59 : decode cX6_numberOfTrial 59 = .ok (.getfield 309, 3) := by decide +kernel
theorem dX6_numberOfTrial_62 : decode cX6_numberOfTrial 62 = .ok (.aload_n 0, 1) := by decide +kernel
theorem dX6_numberOfTrial_63 : decode cX6_numberOfTrial 63 = .ok (.getfield 15, 3) := by decide +kernel
theorem dX6_numberOfTrial_66 : decode cX6_numberOfTrial 66 = .ok (.getfield 309, 3) := by decide +kernel
theorem dX6_numberOfTrial_69 : decode cX6_numberOfTrial 69 = .ok (.isub, 1) := by decide +kernel
theorem dX6_numberOfTrial_70 : decode cX6_numberOfTrial 70 = .ok (.ireturn, 1) := by decide +kernel
set_option maxRecDepth 20000 in
theorem ggX6_beatsToMound_X0_copyFrom : GoodIn wsX6_beatsToMound wsX0_copyFrom := goodIn_r _ [8, 9, 10, 11, 12, 13, 14, 15, 16, 17, 18, 19, 20, 21, 22, 23, 24, 25, 26, 27, 28, 29, 30, 31, 32, 33, 34, 35, 36, 37, 38, 39, 40, 41, 42, 43, 44, 45, 46, 47, 150, 151, 152, 153, 154, 155, 156, 157, 158, 159, 160, 161, 162, 163, 164, 165, 166, 167, 168, 169, 170, 171, 172, 173, 174] (by decide +kernel) (by decide +kernel)
set_option maxRecDepth 20000 in
theorem gX6_beatsToMound_X0_copyFrom : GoodIn wsX6_beatsToMound (wsV RX6 179 RX0 yX0_copyFrom wsX0_copyFrom) := goodIn_app (goodIn_of _ (by decide +kernel)) ggX6_beatsToMound_X0_copyFrom
set_option maxRecDepth 20000 in
theorem ggX6_beatsToMound_X0_hasPlans : GoodIn wsX6_beatsToMound wsX0_hasPlans := goodIn_r _ [51, 18, 19, 52, 150, 151, 152, 153, 154, 155, 156, 157, 158, 159, 160, 161, 162, 163, 168, 169, 170, 171, 172, 173, 174] (by decide +kernel) (by decide +kernel)
set_option maxRecDepth 20000 in
theorem gX6_beatsToMound_X0_hasPlans : GoodIn wsX6_beatsToMound (wsV RX6 328 RX0 yX0_hasPlans wsX0_hasPlans) := goodIn_app (goodIn_of _ (by decide +kernel)) ggX6_beatsToMound_X0_hasPlans
set_option maxRecDepth 20000 in
theorem ggX6_beatsToMound_X0_beat : GoodIn wsX6_beatsToMound wsX0_beat := goodIn_r _ [56, 21, 16, 18, 57, 58, 59, 7, 60, 19, 52, 61, 62, 15, 23, 9, 20, 63, 64, 65, 39, 66, 47, 42, 67, 68, 69, 70, 71, 72, 73, 74, 75, 76, 77, 78, 41, 45, 79, 80, 81, 82, 44, 83, 84, 85, 86, 22, 87, 88, 89, 90, 17, 91, 92, 93, 94, 95, 96, 97, 98, 29, 99, 32, 35, 33, 31, 34, 11, 12, 13, 100, 101, 102, 103, 104, 105, 106, 107, 24, 108, 109, 110, 111, 112, 113, 114, 115, 116, 117, 118, 119, 120, 121, 122, 123, 124, 125, 126, 127, 128, 129, 130, 131, 132, 133, 134, 135, 136, 26, 27, 28, 30, 137, 138, 139, 140, 150, 151, 152, 153, 154, 155, 156, 157, 158, 159, 160, 161, 162, 163, 168, 169, 170, 171, 172, 173, 174, 164, 165, 166, 167] (by decide +kernel) (by decide +kernel)
set_option maxRecDepth 20000 in
theorem gX6_beatsToMound_X0_beat : GoodIn wsX6_beatsToMound (wsV RX6 106 RX0 yX0_beat wsX0_beat) := goodIn_app (goodIn_of _ (by decide +kernel)) ggX6_beatsToMound_X0_beat
theorem dX6_beatsToMound_0 : decode cX6_beatsToMound 0 = .ok (.aload_n 0, 1) := by decide +kernel
theorem dX6_beatsToMound_1 : decode cX6_beatsToMound 1 = .ok (.getfield 24, 3) := by decide +kernel
theorem dX6_beatsToMound_4 : decode cX6_beatsToMound 4 = .ok (.aload_n 0, 1) := by decide +kernel
theorem dX6_beatsToMound_5 : decode cX6_beatsToMound 5 = .ok (.getfield 15, 3) := by decide +kernel
theorem dX6_beatsToMound_8 : decode cX6_beatsToMound 8 = .ok (.invokevirtual 179, 3) := by decide +kernel
theorem dX6_beatsToMound_11 : decode cX6_beatsToMound 11 = .ok (.iconst 1, 1) := by decide +kernel
theorem dX6_beatsToMound_12 : decode cX6_beatsToMound 12 = .ok (.istore_n 1, 1) := by decide +kernel
theorem dX6_beatsToMound_13 : decode cX6_beatsToMound 13 = .ok (.iload_n 1, 1) := by decide +kernel
theorem dX6_beatsToMound_14 : decode cX6_beatsToMound 14 = .ok (.bipush 100, 2) := by decide +kernel
theorem dX6_beatsToMound_16 : decode cX6_beatsToMound 16 = .ok (.if_icmp .gt 45, 3) := by decide +kernel
theorem dX6_beatsToMound_19 : decode cX6_beatsToMound 19 = .ok (.aload_n 0, 1) := by decide +kernel
theorem dX6_beatsToMound_20 : decode cX6_beatsToMound 20 = .ok (.getfield 24, 3) := by decide +kernel
theorem dX6_beatsToMound_23 : decode cX6_beatsToMound 23 = .ok (.invokevirtual 328, 3) := by decide +kernel
theorem dX6_beatsToMound_26 : decode cX6_beatsToMound 26 = .ok (.ifCond .eq 35, 3) := by decide +kernel
theorem dX6_beatsToMound_29 : decode cX6_beatsToMound 29 = .ok (.aload_n 0, 1) := by decide +kernel
theorem dX6_beatsToMound_30 : decode cX6_beatsToMound 30 = .ok (.getfield 24, 3) := by decide +kernel
theorem dX6_beatsToMound_33 : decode cX6_beatsToMound 33 = .ok (.invokevirtual 106, 3) := by decide +kernel
theorem dX6_beatsToMound_36 : decode cX6_beatsToMound 36 = .ok (.aload_n 0, 1) := by decide +kernel
theorem dX6_beatsToMound_37 : decode cX6_beatsToMound 37 = .ok (.getfield 24, 3) := by decide +kernel
theorem dX6_beatsToMound_40 : decode cX6_beatsToMound 40 = .ok (.getfield 103, 3) := by decide +kernel
theorem dX6_beatsToMound_43 : decode cX6_beatsToMound 43 = .ok (.aload_n 0, 1) := by decide +kernel
theorem dX6_beatsToMound_44 : decode cX6_beatsToMound 44 = .ok (.getfield 15, 3) := by decide +kernel
theorem dX6_beatsToMound_47 : decode cX6_beatsToMound 47 = .ok (.getfield 103, 3) := by decide +kernel
theorem dX6_beatsToMound_50 : decode cX6_beatsToMound 50 = .ok (.if_icmp .le 5, 3) := by decide +kernel
theorem dX6_beatsToMound_53 : decode cX6_beatsToMound 53 = .ok (.iload_n 1, 1) := by decide +kernel
theorem dX6_beatsToMound_54 : decode cX6_beatsToMound 54 = .ok (.ireturn, 1) := by decide +kernel
theorem dX6_beatsToMound_55 : decode cX6_beatsToMound 55 = .ok (.iinc 1 1, 3) := by decide +kernel
theorem dX6_beatsToMound_58 : decode cX6_beatsToMound 58 = .ok (.goto (-45), 3) := by decide +kernel
theorem dX6_beatsToMound_61 : decode cX6_beatsToMound 61 = .ok (.iconst (-1), 1) := by decide +kernel
theorem dX6_beatsToMound_62 : decode cX6_beatsToMound 62 = .ok (.ireturn, 1) := by decide +kernel
set_option maxRecDepth 20000 in
theorem ggX6_hashTufts_X6_numberOfTuft : GoodIn wsX6_hashTufts wsX6_numberOfTuft := goodIn_r _ [6, 7, 8, 9, 10, 11, 12, 13, 14, 15, 16, 17, 18, 19, 20, 21, 5, 22, 23, 24, 25, 26, 27, 28, 29, 30, 31, 32, 33, 34, 35, 36, 37, 38, 39, 40, 41, 42, 43, 44, 45, 46, 47, 48, 49, 50, 51, 52, 53, 54, 55, 56, 57, 58, 59, 60, 61, 62, 63, 64, 65, 66, 67, 68, 69, 70, 71, 72, 73, 74, 75] (by decide +kernel) (by decide +kernel)
set_option maxRecDepth 20000 in
theorem gX6_hashTufts_X6_numberOfTuft : GoodIn wsX6_hashTufts (wsV RX6 203 RX6 yX6_numberOfTuft wsX6_numberOfTuft) := goodIn_app (goodIn_of _ (by decide +kernel)) ggX6_hashTufts_X6_numberOfTuft
theorem dX6_hashTufts_0 : decode cX6_hashTufts 0 = .ok (.lload_n 1, 1) := by decide +kernel
theorem dX6_hashTufts_1 : decode cX6_hashTufts 1 = .ok (.lstore_n 3, 1) := by decide +kernel
theorem dX6_hashTufts_2 : decode cX6_hashTufts 2 = .ok (.iconst 0, 1) := by decide +kernel
theorem dX6_hashTufts_3 : decode cX6_hashTufts 3 = .ok (.istore 5, 2) := by decide +kernel
theorem dX6_hashTufts_5 : decode cX6_hashTufts 5 = .ok (.iload 5, 2) := by decide +kernel
theorem dX6_hashTufts_7 : decode cX6_hashTufts 7 = .ok (.bipush 64, 2) := by decide +kernel
theorem dX6_hashTufts_9 : decode cX6_hashTufts 9 = .ok (.if_icmp .ge 41, 3) := by decide +kernel
theorem dX6_hashTufts_12 : decode cX6_hashTufts 12 = .ok (.iconst 0, 1) := by decide +kernel
theorem dX6_hashTufts_13 : decode cX6_hashTufts 13 = .ok (.istore 6, 2) := by decide +kernel
theorem dX6_hashTufts_15 : decode cX6_hashTufts 15 = .ok (.iload 6, 2) := by decide +kernel
theorem dX6_hashTufts_17 : decode cX6_hashTufts 17 = .ok (.bipush 8, 2) := by decide +kernel
theorem dX6_hashTufts_19 : decode cX6_hashTufts 19 = .ok (.if_icmp .gt 25, 3) := by decide +kernel
theorem dX6_hashTufts_22 : decode cX6_hashTufts 22 = .ok (.ldc2_w 252, 3) := by decide +kernel
theorem dX6_hashTufts_25 : decode cX6_hashTufts 25 = .ok (.lload_n 3, 1) := by decide +kernel
theorem dX6_hashTufts_26 : decode cX6_hashTufts 26 = .ok (.lmul, 1) := by decide +kernel
theorem dX6_hashTufts_27 : decode cX6_hashTufts 27 = .ok (.aload_n 0, 1) := by decide +kernel
theorem dX6_hashTufts_28 : decode cX6_hashTufts 28 = .ok (.iload 5, 2) := by decide +kernel
theorem dX6_hashTufts_30 : decode cX6_hashTufts 30 = .ok (.iload 6, 2) := by decide +kernel
theorem dX6_hashTufts_32 : decode cX6_hashTufts 32 = .ok (.invokevirtual 203, 3) := by decide +kernel
theorem dX6_hashTufts_35 : decode cX6_hashTufts 35 = .ok (.i2l, 1) := by decide +kernel
theorem dX6_hashTufts_36 : decode cX6_hashTufts 36 = .ok (.ladd, 1) := by decide +kernel
theorem dX6_hashTufts_37 : decode cX6_hashTufts 37 = .ok (.lstore_n 3, 1) := by decide +kernel
theorem dX6_hashTufts_38 : decode cX6_hashTufts 38 = .ok (.iinc 6 1, 3) := by decide +kernel
theorem dX6_hashTufts_41 : decode cX6_hashTufts 41 = .ok (.goto (-26), 3) := by decide +kernel
theorem dX6_hashTufts_44 : decode cX6_hashTufts 44 = .ok (.iinc 5 1, 3) := by decide +kernel
theorem dX6_hashTufts_47 : decode cX6_hashTufts 47 = .ok (.goto (-42), 3) := by decide +kernel
theorem dX6_hashTufts_50 : decode cX6_hashTufts 50 = .ok (.lload_n 3, 1) := by decide +kernel
theorem dX6_hashTufts_51 : decode cX6_hashTufts 51 = .ok (.lreturn, 1) := by decide +kernel
set_option maxRecDepth 20000 in
theorem ggX6_hashMoles_X1_number : GoodIn wsX6_hashMoles wsX1_number := goodIn_r _ [9, 10, 11, 12, 13, 14, 15, 16, 17, 18, 8, 19, 43, 44, 45, 46, 47, 48, 49] (by decide +kernel) (by decide +kernel)
set_option maxRecDepth 20000 in
theorem gX6_hashMoles_X1_number : GoodIn wsX6_hashMoles (wsV RX6 207 RX1 yX1_number wsX1_number) := goodIn_app (goodIn_of _ (by decide +kernel)) ggX6_hashMoles_X1_number
theorem dX6_hashMoles_0 : decode cX6_hashMoles 0 = .ok (.lload_n 1, 1) := by decide +kernel
theorem dX6_hashMoles_1 : decode cX6_hashMoles 1 = .ok (.lstore_n 3, 1) := by decide +kernel
theorem dX6_hashMoles_2 : decode cX6_hashMoles 2 = .ok (.iconst 0, 1) := by decide +kernel
theorem dX6_hashMoles_3 : decode cX6_hashMoles 3 = .ok (.istore 5, 2) := by decide +kernel
theorem dX6_hashMoles_5 : decode cX6_hashMoles 5 = .ok (.iload 5, 2) := by decide +kernel
theorem dX6_hashMoles_7 : decode cX6_hashMoles 7 = .ok (.aload_n 0, 1) := by decide +kernel
theorem dX6_hashMoles_8 : decode cX6_hashMoles 8 = .ok (.getfield 15, 3) := by decide +kernel
theorem dX6_hashMoles_11 : decode cX6_hashMoles 11 = .ok (.getfield 56, 3) := by decide +kernel
theorem dX6_hashMoles_14 : decode cX6_hashMoles 14 = .ok (.if_icmp .ge 48, 3) := by decide +kernel
theorem dX6_hashMoles_17 : decode cX6_hashMoles 17 = .ok (.iconst 0, 1) := by decide +kernel
theorem dX6_hashMoles_18 : decode cX6_hashMoles 18 = .ok (.istore 6, 2) := by decide +kernel
theorem dX6_hashMoles_20 : decode cX6_hashMoles 20 = .ok (.iload 6, 2) := by decide +kernel
theorem dX6_hashMoles_22 : decode cX6_hashMoles 22 = .ok (.bipush 6, 2) := by decide +kernel
theorem dX6_hashMoles_24 : decode cX6_hashMoles 24 = .ok (.if_icmp .gt 32, 3) := by decide +kernel
theorem dX6_hashMoles_27 : decode cX6_hashMoles 27 = .ok (.ldc2_w 252, 3) := by decide +kernel
theorem dX6_hashMoles_30 : decode cX6_hashMoles 30 = .ok (.lload_n 3, 1) := by decide +kernel
theorem dX6_hashMoles_31 : decode cX6_hashMoles 31 = .ok (.lmul, 1) := by decide +kernel
theorem dX6_hashMoles_32 : decode cX6_hashMoles 32 = .ok (.aload_n 0, 1) := by decide +kernel
theorem dX6_hashMoles_33 : decode cX6_hashMoles 33 = .ok (.getfield 15, 3) := by decide +kernel
theorem dX6_hashMoles_36 : decode cX6_hashMoles 36 = .ok (.getfield 86, 3) := by decide +kernel
theorem dX6_hashMoles_39 : decode cX6_hashMoles 39 = .ok (.iload 5, 2) := by decide +kernel
theorem dX6_hashMoles_41 : decode cX6_hashMoles 41 = .ok (.aaload, 1) := by decide +kernel
theorem dX6_hashMoles_42 : decode cX6_hashMoles 42 = .ok (.iload 6, 2) := by decide +kernel
theorem dX6_hashMoles_44 : decode cX6_hashMoles 44 = .ok (.invokevirtual 207, 3) := by decide +kernel
theorem dX6_hashMoles_47 : decode cX6_hashMoles 47 = .ok (.i2l, 1) := by decide +kernel
theorem dX6_hashMoles_48 : decode cX6_hashMoles 48 = .ok (.ladd, 1) := by decide +kernel
theorem dX6_hashMoles_49 : decode cX6_hashMoles 49 = .ok (.lstore_n 3, 1) := by decide +kernel
theorem dX6_hashMoles_50 : decode cX6_hashMoles 50 = .ok (.iinc 6 1, 3) := by decide +kernel
theorem dX6_hashMoles_53 : decode cX6_hashMoles 53 = .ok (.goto (-33), 3) := by decide +kernel
theorem dX6_hashMoles_56 : decode cX6_hashMoles 56 = .ok (.iinc 5 1, 3) := by decide +kernel
theorem dX6_hashMoles_59 : decode cX6_hashMoles 59 = .ok (.goto (-54), 3) := by decide +kernel
theorem dX6_hashMoles_62 : decode cX6_hashMoles 62 = .ok (.lload_n 3, 1) := by decide +kernel
theorem dX6_hashMoles_63 : decode cX6_hashMoles 63 = .ok (.lreturn, 1) := by decide +kernel
set_option maxRecDepth 20000 in
theorem ggX6_hashTunnels_X3_number : GoodIn wsX6_hashTunnels wsX3_number := goodIn_r _ [9, 10, 11, 12, 8, 13, 14, 15, 16, 17, 18, 19, 20, 21, 22, 23, 24, 25, 26, 27, 28, 29, 30, 31, 32, 57, 58, 59, 60] (by decide +kernel) (by decide +kernel)
set_option maxRecDepth 20000 in
theorem gX6_hashTunnels_X3_number : GoodIn wsX6_hashTunnels (wsV RX6 213 RX3 yX3_number wsX3_number) := goodIn_app (goodIn_of _ (by decide +kernel)) ggX6_hashTunnels_X3_number
set_option maxRecDepth 20000 in
theorem ggX6_hashTunnels_X3_at : GoodIn wsX6_hashTunnels wsX3_at := goodIn_r _ [17, 18, 19, 20, 21, 8, 22, 23, 24, 25, 26, 27, 28, 57, 58, 59, 60] (by decide +kernel) (by decide +kernel)
set_option maxRecDepth 20000 in
theorem gX6_hashTunnels_X3_at : GoodIn wsX6_hashTunnels (wsV RX6 217 RX3 yX3_at wsX3_at) := goodIn_app (goodIn_of _ (by decide +kernel)) ggX6_hashTunnels_X3_at
theorem dX6_hashTunnels_0 : decode cX6_hashTunnels 0 = .ok (.lload_n 1, 1) := by decide +kernel
theorem dX6_hashTunnels_1 : decode cX6_hashTunnels 1 = .ok (.lstore_n 3, 1) := by decide +kernel
theorem dX6_hashTunnels_2 : decode cX6_hashTunnels 2 = .ok (.aload_n 0, 1) := by decide +kernel
theorem dX6_hashTunnels_3 : decode cX6_hashTunnels 3 = .ok (.getfield 15, 3) := by decide +kernel
theorem dX6_hashTunnels_6 : decode cX6_hashTunnels 6 = .ok (.getfield 187, 3) := by decide +kernel
theorem dX6_hashTunnels_9 : decode cX6_hashTunnels 9 = .ok (.astore 5, 2) := by decide +kernel
theorem dX6_hashTunnels_11 : decode cX6_hashTunnels 11 = .ok (.iconst 0, 1) := by decide +kernel
theorem dX6_hashTunnels_12 : decode cX6_hashTunnels 12 = .ok (.istore 6, 2) := by decide +kernel
theorem dX6_hashTunnels_14 : decode cX6_hashTunnels 14 = .ok (.iload 6, 2) := by decide +kernel
theorem dX6_hashTunnels_16 : decode cX6_hashTunnels 16 = .ok (.aload 5, 2) := by decide +kernel
theorem dX6_hashTunnels_18 : decode cX6_hashTunnels 18 = .ok (.getfield 191, 3) := by decide +kernel
theorem dX6_hashTunnels_21 : decode cX6_hashTunnels 21 = .ok (.if_icmp .ge 84, 3) := by decide +kernel
theorem dX6_hashTunnels_24 : decode cX6_hashTunnels 24 = .ok (.iconst 0, 1) := by decide +kernel
theorem dX6_hashTunnels_25 : decode cX6_hashTunnels 25 = .ok (.istore 7, 2) := by decide +kernel
theorem dX6_hashTunnels_27 : decode cX6_hashTunnels 27 = .ok (.iload 7, 2) := by decide +kernel
theorem dX6_hashTunnels_29 : decode cX6_hashTunnels 29 = .ok (.iconst 2, 1) := by decide +kernel
theorem dX6_hashTunnels_30 : decode cX6_hashTunnels 30 = .ok (.if_icmp .gt 26, 3) := by decide +kernel
theorem dX6_hashTunnels_33 : decode cX6_hashTunnels 33 = .ok (.ldc2_w 252, 3) := by decide +kernel
theorem dX6_hashTunnels_36 : decode cX6_hashTunnels 36 = .ok (.lload_n 3, 1) := by decide +kernel
theorem dX6_hashTunnels_37 : decode cX6_hashTunnels 37 = .ok (.lmul, 1) := by decide +kernel
theorem dX6_hashTunnels_38 : decode cX6_hashTunnels 38 = .ok (.aload 5, 2) := by decide +kernel
theorem dX6_hashTunnels_40 : decode cX6_hashTunnels 40 = .ok (.iload 6, 2) := by decide +kernel
theorem dX6_hashTunnels_42 : decode cX6_hashTunnels 42 = .ok (.iload 7, 2) := by decide +kernel
theorem dX6_hashTunnels_44 : decode cX6_hashTunnels 44 = .ok (.invokevirtual 213, 3) := by decide +kernel
theorem dX6_hashTunnels_47 : decode cX6_hashTunnels 47 = .ok (.i2l, 1) := by decide +kernel
theorem dX6_hashTunnels_48 : decode cX6_hashTunnels 48 = .ok (.ladd, 1) := by decide +kernel
theorem dX6_hashTunnels_49 : decode cX6_hashTunnels 49 = .ok (.lstore_n 3, 1) := by decide +kernel
theorem dX6_hashTunnels_50 : decode cX6_hashTunnels 50 = .ok (.iinc 7 1, 3) := by decide +kernel
theorem dX6_hashTunnels_53 : decode cX6_hashTunnels 53 = .ok (.goto (-26), 3) := by decide +kernel
theorem dX6_hashTunnels_56 : decode cX6_hashTunnels 56 = .ok (.aload 5, 2) := by decide +kernel
theorem dX6_hashTunnels_58 : decode cX6_hashTunnels 58 = .ok (.iload 6, 2) := by decide +kernel
theorem dX6_hashTunnels_60 : decode cX6_hashTunnels 60 = .ok (.iconst 2, 1) := by decide +kernel
theorem dX6_hashTunnels_61 : decode cX6_hashTunnels 61 = .ok (.invokevirtual 213, 3) := by decide +kernel
theorem dX6_hashTunnels_64 : decode cX6_hashTunnels 64 = .ok (.istore 7, 2) := by decide +kernel
theorem dX6_hashTunnels_66 : decode cX6_hashTunnels 66 = .ok (.iconst 0, 1) := by decide +kernel
theorem dX6_hashTunnels_67 : decode cX6_hashTunnels 67 = .ok (.istore 8, 2) := by decide +kernel
theorem dX6_hashTunnels_69 : decode cX6_hashTunnels 69 = .ok (.iload 8, 2) := by decide +kernel
theorem dX6_hashTunnels_71 : decode cX6_hashTunnels 71 = .ok (.iload 7, 2) := by decide +kernel
theorem dX6_hashTunnels_73 : decode cX6_hashTunnels 73 = .ok (.if_icmp .ge 26, 3) := by decide +kernel
theorem dX6_hashTunnels_76 : decode cX6_hashTunnels 76 = .ok (.ldc2_w 252, 3) := by decide +kernel
theorem dX6_hashTunnels_79 : decode cX6_hashTunnels 79 = .ok (.lload_n 3, 1) := by decide +kernel
theorem dX6_hashTunnels_80 : decode cX6_hashTunnels 80 = .ok (.lmul, 1) := by decide +kernel
theorem dX6_hashTunnels_81 : decode cX6_hashTunnels 81 = .ok (.aload 5, 2) := by decide +kernel
theorem dX6_hashTunnels_83 : decode cX6_hashTunnels 83 = .ok (.iload 6, 2) := by decide +kernel
theorem dX6_hashTunnels_85 : decode cX6_hashTunnels 85 = .ok (.iload 8, 2) := by decide +kernel
theorem dX6_hashTunnels_87 : decode cX6_hashTunnels 87 = .ok (.invokevirtual 217, 3) := by decide +kernel
theorem dX6_hashTunnels_90 : decode cX6_hashTunnels 90 = .ok (.i2l, 1) := by decide +kernel
theorem dX6_hashTunnels_91 : decode cX6_hashTunnels 91 = .ok (.ladd, 1) := by decide +kernel
theorem dX6_hashTunnels_92 : decode cX6_hashTunnels 92 = .ok (.lstore_n 3, 1) := by decide +kernel
theorem dX6_hashTunnels_93 : decode cX6_hashTunnels 93 = .ok (.iinc 8 1, 3) := by decide +kernel
theorem dX6_hashTunnels_96 : decode cX6_hashTunnels 96 = .ok (.goto (-27), 3) := by decide +kernel
theorem dX6_hashTunnels_99 : decode cX6_hashTunnels 99 = .ok (.iinc 6 1, 3) := by decide +kernel
theorem dX6_hashTunnels_102 : decode cX6_hashTunnels 102 = .ok (.goto (-88), 3) := by decide +kernel
theorem dX6_hashTunnels_105 : decode cX6_hashTunnels 105 = .ok (.lload_n 3, 1) := by decide +kernel
theorem dX6_hashTunnels_106 : decode cX6_hashTunnels 106 = .ok (.lreturn, 1) := by decide +kernel
set_option maxRecDepth 20000 in
theorem ggX6_hashPaths_X0_lowestMound : GoodIn wsX6_hashPaths wsX0_lowestMound := goodIn_r _ [10, 11, 61, 62, 63, 64, 65, 66, 67, 68, 69, 70, 71, 72, 73, 74] (by decide +kernel) (by decide +kernel)
set_option maxRecDepth 20000 in
theorem gX6_hashPaths_X0_lowestMound : GoodIn wsX6_hashPaths (wsV RX6 331 RX0 yX0_lowestMound wsX0_lowestMound) := goodIn_app (goodIn_of _ (by decide +kernel)) ggX6_hashPaths_X0_lowestMound
set_option maxRecDepth 20000 in
theorem ggX6_hashPaths_X2_measure : GoodIn wsX6_hashPaths wsX2_measure := goodIn_r _ [16, 17, 18, 19, 20, 21, 22, 23, 24, 25, 26, 27, 28, 29, 30, 31, 32, 33, 34, 35, 36, 37, 38, 39, 40, 41, 42, 43, 44, 45, 46, 15, 47, 48, 49, 50, 51, 75, 76, 61, 62, 63, 64, 65, 66, 67, 68, 69, 70, 71, 72, 73, 74, 77, 78, 79, 80] (by decide +kernel) (by decide +kernel)
set_option maxRecDepth 20000 in
theorem gX6_hashPaths_X2_measure : GoodIn wsX6_hashPaths (wsV RX6 223 RX2 yX2_measure wsX2_measure) := goodIn_app (goodIn_of _ (by decide +kernel)) ggX6_hashPaths_X2_measure
theorem dX6_hashPaths_0 : decode cX6_hashPaths 0 = .ok (.lload_n 1, 1) := by decide +kernel
theorem dX6_hashPaths_1 : decode cX6_hashPaths 1 = .ok (.lstore_n 3, 1) := by decide +kernel
theorem dX6_hashPaths_2 : decode cX6_hashPaths 2 = .ok (.aload_n 0, 1) := by decide +kernel
theorem dX6_hashPaths_3 : decode cX6_hashPaths 3 = .ok (.getfield 15, 3) := by decide +kernel
theorem dX6_hashPaths_6 : decode cX6_hashPaths 6 = .ok (.invokevirtual 331, 3) := by decide +kernel
theorem dX6_hashPaths_9 : decode cX6_hashPaths 9 = .ok (.istore 5, 2) := by decide +kernel
theorem dX6_hashPaths_11 : decode cX6_hashPaths 11 = .ok (.iload 5, 2) := by decide +kernel
theorem dX6_hashPaths_13 : decode cX6_hashPaths 13 = .ok (.iconst (-1), 1) := by decide +kernel
theorem dX6_hashPaths_14 : decode cX6_hashPaths 14 = .ok (.if_icmp .ne 5, 3) := by decide +kernel
theorem dX6_hashPaths_17 : decode cX6_hashPaths 17 = .ok (.lload_n 3, 1) := by decide +kernel
theorem dX6_hashPaths_18 : decode cX6_hashPaths 18 = .ok (.lreturn, 1) := by decide +kernel
theorem dX6_hashPaths_19 : decode cX6_hashPaths 19 = .ok (.aload_n 0, 1) := by decide +kernel
theorem dX6_hashPaths_20 : decode cX6_hashPaths 20 = .ok (.getfield 48, 3) := by decide +kernel
theorem dX6_hashPaths_23 : decode cX6_hashPaths 23 = .ok (.aload_n 0, 1) := by decide +kernel
theorem dX6_hashPaths_24 : decode cX6_hashPaths 24 = .ok (.getfield 15, 3) := by decide +kernel
theorem dX6_hashPaths_27 : decode cX6_hashPaths 27 = .ok (.iload 5, 2) := by decide +kernel
theorem dX6_hashPaths_29 : decode cX6_hashPaths 29 = .ok (.invokevirtual 223, 3) := by decide +kernel
theorem dX6_hashPaths_32 : decode cX6_hashPaths 32 = .ok (.iconst 0, 1) := by decide +kernel
theorem dX6_hashPaths_33 : decode cX6_hashPaths 33 = .ok (.istore 6, 2) := by decide +kernel
theorem dX6_hashPaths_35 : decode cX6_hashPaths 35 = .ok (.iload 6, 2) := by decide +kernel
theorem dX6_hashPaths_37 : decode cX6_hashPaths 37 = .ok (.bipush 64, 2) := by decide +kernel
theorem dX6_hashPaths_39 : decode cX6_hashPaths 39 = .ok (.if_icmp .ge 40, 3) := by decide +kernel
theorem dX6_hashPaths_42 : decode cX6_hashPaths 42 = .ok (.aload_n 0, 1) := by decide +kernel
theorem dX6_hashPaths_43 : decode cX6_hashPaths 43 = .ok (.getfield 15, 3) := by decide +kernel
theorem dX6_hashPaths_46 : decode cX6_hashPaths 46 = .ok (.getfield 125, 3) := by decide +kernel
theorem dX6_hashPaths_49 : decode cX6_hashPaths 49 = .ok (.iload 6, 2) := by decide +kernel
theorem dX6_hashPaths_51 : decode cX6_hashPaths 51 = .ok (.baload, 1) := by decide +kernel
theorem dX6_hashPaths_52 : decode cX6_hashPaths 52 = .ok (.ifCond .eq 21, 3) := by decide +kernel
theorem dX6_hashPaths_55 : decode cX6_hashPaths 55 = .ok (.ldc2_w 252, 3) := by decide +kernel
theorem dX6_hashPaths_58 : decode cX6_hashPaths 58 = .ok (.lload_n 3, 1) := by decide +kernel
theorem dX6_hashPaths_59 : decode cX6_hashPaths 59 = .ok (.lmul, 1) := by decide +kernel
theorem dX6_hashPaths_60 : decode cX6_hashPaths 60 = .ok (.aload_n 0, 1) := by decide +kernel
theorem dX6_hashPaths_61 : decode cX6_hashPaths 61 = .ok (.getfield 48, 3) := by decide +kernel
theorem dX6_hashPaths_64 : decode cX6_hashPaths 64 = .ok (.getfield 227, 3) := by decide +kernel
theorem dX6_hashPaths_67 : decode cX6_hashPaths 67 = .ok (.iload 6, 2) := by decide +kernel
theorem dX6_hashPaths_69 : decode cX6_hashPaths 69 = .ok (.iaload, 1) := by decide +kernel
theorem dX6_hashPaths_70 : decode cX6_hashPaths 70 = .ok (.i2l, 1) := by decide +kernel
theorem dX6_hashPaths_71 : decode cX6_hashPaths 71 = .ok (.ladd, 1) := by decide +kernel
theorem dX6_hashPaths_72 : decode cX6_hashPaths 72 = .ok (.lstore_n 3, 1) := by decide +kernel
theorem dX6_hashPaths_73 : decode cX6_hashPaths 73 = .ok (.iinc 6 1, 3) := by decide +kernel
theorem dX6_hashPaths_76 : decode cX6_hashPaths 76 = .ok (.goto (-41), 3) := by decide +kernel
theorem dX6_hashPaths_79 : decode cX6_hashPaths 79 = .ok (.lload_n 3, 1) := by decide +kernel
theorem dX6_hashPaths_80 : decode cX6_hashPaths 80 = .ok (.lreturn, 1) := by decide +kernel
set_option maxRecDepth 20000 in
theorem ggX6_hashDigging_X6_mostCrossed : GoodIn wsX6_hashDigging wsX6_mostCrossed := goodIn_r _ [8, 9, 10, 2, 3, 11, 12, 13, 14, 15, 16, 17, 18, 19, 24, 25, 26, 27, 28, 29, 30, 31, 32, 33, 34, 35, 36, 37, 20, 21, 22, 23] (by decide +kernel) (by decide +kernel)
set_option maxRecDepth 20000 in
theorem gX6_hashDigging_X6_mostCrossed : GoodIn wsX6_hashDigging (wsV RX6 236 RX6 yX6_mostCrossed wsX6_mostCrossed) := goodIn_app (goodIn_of _ (by decide +kernel)) ggX6_hashDigging_X6_mostCrossed
theorem dX6_hashDigging_0 : decode cX6_hashDigging 0 = .ok (.lload_n 1, 1) := by decide +kernel
theorem dX6_hashDigging_1 : decode cX6_hashDigging 1 = .ok (.lstore_n 3, 1) := by decide +kernel
theorem dX6_hashDigging_2 : decode cX6_hashDigging 2 = .ok (.iconst 0, 1) := by decide +kernel
theorem dX6_hashDigging_3 : decode cX6_hashDigging 3 = .ok (.istore 5, 2) := by decide +kernel
theorem dX6_hashDigging_5 : decode cX6_hashDigging 5 = .ok (.iload 5, 2) := by decide +kernel
theorem dX6_hashDigging_7 : decode cX6_hashDigging 7 = .ok (.bipush 64, 2) := by decide +kernel
theorem dX6_hashDigging_9 : decode cX6_hashDigging 9 = .ok (.if_icmp .ge 27, 3) := by decide +kernel
theorem dX6_hashDigging_12 : decode cX6_hashDigging 12 = .ok (.ldc2_w 252, 3) := by decide +kernel
theorem dX6_hashDigging_15 : decode cX6_hashDigging 15 = .ok (.lload_n 3, 1) := by decide +kernel
theorem dX6_hashDigging_16 : decode cX6_hashDigging 16 = .ok (.lmul, 1) := by decide +kernel
theorem dX6_hashDigging_17 : decode cX6_hashDigging 17 = .ok (.aload_n 0, 1) := by decide +kernel
theorem dX6_hashDigging_18 : decode cX6_hashDigging 18 = .ok (.getfield 41, 3) := by decide +kernel
theorem dX6_hashDigging_21 : decode cX6_hashDigging 21 = .ok (.getfield 300, 3) := by decide +kernel
theorem dX6_hashDigging_24 : decode cX6_hashDigging 24 = .ok (.iload 5, 2) := by decide +kernel
theorem dX6_hashDigging_26 : decode cX6_hashDigging 26 = .ok (.iaload, 1) := by decide +kernel
theorem dX6_hashDigging_27 : decode cX6_hashDigging 27 = .ok (.i2l, 1) := by decide +kernel
theorem dX6_hashDigging_28 : decode cX6_hashDigging 28 = .ok (.ladd, 1) := by decide +kernel
theorem dX6_hashDigging_29 : decode cX6_hashDigging 29 = .ok (.lstore_n 3, 1) := by decide +kernel
theorem dX6_hashDigging_30 : decode cX6_hashDigging 30 = .ok (.iinc 5 1, 3) := by decide +kernel
theorem dX6_hashDigging_33 : decode cX6_hashDigging 33 = .ok (.goto (-28), 3) := by decide +kernel
theorem dX6_hashDigging_36 : decode cX6_hashDigging 36 = .ok (.ldc2_w 252, 3) := by decide +kernel
theorem dX6_hashDigging_39 : decode cX6_hashDigging 39 = .ok (.lload_n 3, 1) := by decide +kernel
theorem dX6_hashDigging_40 : decode cX6_hashDigging 40 = .ok (.lmul, 1) := by decide +kernel
theorem dX6_hashDigging_41 : decode cX6_hashDigging 41 = .ok (.aload_n 0, 1) := by decide +kernel
theorem dX6_hashDigging_42 : decode cX6_hashDigging 42 = .ok (.invokevirtual 236, 3) := by decide +kernel
theorem dX6_hashDigging_45 : decode cX6_hashDigging 45 = .ok (.i2l, 1) := by decide +kernel
theorem dX6_hashDigging_46 : decode cX6_hashDigging 46 = .ok (.ladd, 1) := by decide +kernel
theorem dX6_hashDigging_47 : decode cX6_hashDigging 47 = .ok (.lreturn, 1) := by decide +kernel
theorem dX6_bitsOfShare_0 : decode cX6_bitsOfShare 0 = .ok (.iload_n 0, 1) := by decide +kernel
theorem dX6_bitsOfShare_1 : decode cX6_bitsOfShare 1 = .ok (.ifCond .gt 5, 3) := by decide +kernel
theorem dX6_bitsOfShare_4 : decode cX6_bitsOfShare 4 = .ok (.lconst 0, 1) := by decide +kernel
theorem dX6_bitsOfShare_5 : decode cX6_bitsOfShare 5 = .ok (.lreturn, 1) := by decide +kernel
theorem dX6_bitsOfShare_6 : decode cX6_bitsOfShare 6 = .ok (.iconst 0, 1) := by decide +kernel
theorem dX6_bitsOfShare_7 : decode cX6_bitsOfShare 7 = .ok (.istore_n 1, 1) := by decide +kernel
theorem dX6_bitsOfShare_8 : decode cX6_bitsOfShare 8 = .ok (.iload_n 1, 1) := by decide +kernel
theorem dX6_bitsOfShare_9 : decode cX6_bitsOfShare 9 = .ok (.bipush 30, 2) := by decide +kernel
theorem dX6_bitsOfShare_11 : decode cX6_bitsOfShare 11 = .ok (.if_icmp .ge 17, 3) := by decide +kernel
theorem dX6_bitsOfShare_14 : decode cX6_bitsOfShare 14 = .ok (.iload_n 0, 1) := by decide +kernel
theorem dX6_bitsOfShare_15 : decode cX6_bitsOfShare 15 = .ok (.iload_n 1, 1) := by decide +kernel
theorem dX6_bitsOfShare_16 : decode cX6_bitsOfShare 16 = .ok (.iconst 1, 1) := by decide +kernel
theorem dX6_bitsOfShare_17 : decode cX6_bitsOfShare 17 = .ok (.iadd, 1) := by decide +kernel
theorem dX6_bitsOfShare_18 : decode cX6_bitsOfShare 18 = .ok (.ishr, 1) := by decide +kernel
theorem dX6_bitsOfShare_19 : decode cX6_bitsOfShare 19 = .ok (.ifCond .eq 9, 3) := by decide +kernel
theorem dX6_bitsOfShare_22 : decode cX6_bitsOfShare 22 = .ok (.iinc 1 1, 3) := by decide +kernel
theorem dX6_bitsOfShare_25 : decode cX6_bitsOfShare 25 = .ok (.goto (-17), 3) := by decide +kernel
theorem dX6_bitsOfShare_28 : decode cX6_bitsOfShare 28 = .ok (.iload_n 0, 1) := by decide +kernel
theorem dX6_bitsOfShare_29 : decode cX6_bitsOfShare 29 = .ok (.i2l, 1) := by decide +kernel
theorem dX6_bitsOfShare_30 : decode cX6_bitsOfShare 30 = .ok (.lconst 1, 1) := by decide +kernel
theorem dX6_bitsOfShare_31 : decode cX6_bitsOfShare 31 = .ok (.iload_n 1, 1) := by decide +kernel
theorem dX6_bitsOfShare_32 : decode cX6_bitsOfShare 32 = .ok (.lshl, 1) := by decide +kernel
theorem dX6_bitsOfShare_33 : decode cX6_bitsOfShare 33 = .ok (.lsub, 1) := by decide +kernel
theorem dX6_bitsOfShare_34 : decode cX6_bitsOfShare 34 = .ok (.lstore_n 2, 1) := by decide +kernel
theorem dX6_bitsOfShare_35 : decode cX6_bitsOfShare 35 = .ok (.sipush 1023, 3) := by decide +kernel
theorem dX6_bitsOfShare_38 : decode cX6_bitsOfShare 38 = .ok (.iload_n 1, 1) := by decide +kernel
theorem dX6_bitsOfShare_39 : decode cX6_bitsOfShare 39 = .ok (.iadd, 1) := by decide +kernel
theorem dX6_bitsOfShare_40 : decode cX6_bitsOfShare 40 = .ok (.bipush 6, 2) := by decide +kernel
theorem dX6_bitsOfShare_42 : decode cX6_bitsOfShare 42 = .ok (.isub, 1) := by decide +kernel
theorem dX6_bitsOfShare_43 : decode cX6_bitsOfShare 43 = .ok (.i2l, 1) := by decide +kernel
theorem dX6_bitsOfShare_44 : decode cX6_bitsOfShare 44 = .ok (.lstore 4, 2) := by decide +kernel
theorem dX6_bitsOfShare_46 : decode cX6_bitsOfShare 46 = .ok (.lload 4, 2) := by decide +kernel
theorem dX6_bitsOfShare_48 : decode cX6_bitsOfShare 48 = .ok (.bipush 52, 2) := by decide +kernel
theorem dX6_bitsOfShare_50 : decode cX6_bitsOfShare 50 = .ok (.lshl, 1) := by decide +kernel
theorem dX6_bitsOfShare_51 : decode cX6_bitsOfShare 51 = .ok (.lload_n 2, 1) := by decide +kernel
theorem dX6_bitsOfShare_52 : decode cX6_bitsOfShare 52 = .ok (.bipush 52, 2) := by decide +kernel
theorem dX6_bitsOfShare_54 : decode cX6_bitsOfShare 54 = .ok (.iload_n 1, 1) := by decide +kernel
theorem dX6_bitsOfShare_55 : decode cX6_bitsOfShare 55 = .ok (.isub, 1) := by decide +kernel
theorem dX6_bitsOfShare_56 : decode cX6_bitsOfShare 56 = .ok (.lshl, 1) := by decide +kernel
theorem dX6_bitsOfShare_57 : decode cX6_bitsOfShare 57 = .ok (.lor, 1) := by decide +kernel
theorem dX6_bitsOfShare_58 : decode cX6_bitsOfShare 58 = .ok (.lreturn, 1) := by decide +kernel
theorem dX6_tuftAt_0 : decode cX6_tuftAt 0 = .ok (.iload_n 0, 1) := by decide +kernel
theorem dX6_tuftAt_1 : decode cX6_tuftAt 1 = .ok (.ifCond .lt 19, 3) := by decide +kernel
theorem dX6_tuftAt_4 : decode cX6_tuftAt 4 = .ok (.iload_n 0, 1) := by decide +kernel
theorem dX6_tuftAt_5 : decode cX6_tuftAt 5 = .ok (.bipush 8, 2) := by decide +kernel
theorem dX6_tuftAt_7 : decode cX6_tuftAt 7 = .ok (.if_icmp .ge 13, 3) := by decide +kernel
theorem dX6_tuftAt_10 : decode cX6_tuftAt 10 = .ok (.iload_n 1, 1) := by decide +kernel
theorem dX6_tuftAt_11 : decode cX6_tuftAt 11 = .ok (.ifCond .lt 9, 3) := by decide +kernel
theorem dX6_tuftAt_14 : decode cX6_tuftAt 14 = .ok (.iload_n 1, 1) := by decide +kernel
theorem dX6_tuftAt_15 : decode cX6_tuftAt 15 = .ok (.bipush 8, 2) := by decide +kernel
theorem dX6_tuftAt_17 : decode cX6_tuftAt 17 = .ok (.if_icmp .lt 5, 3) := by decide +kernel
theorem dX6_tuftAt_20 : decode cX6_tuftAt 20 = .ok (.iconst (-1), 1) := by decide +kernel
theorem dX6_tuftAt_21 : decode cX6_tuftAt 21 = .ok (.ireturn, 1) := by decide +kernel
theorem dX6_tuftAt_22 : decode cX6_tuftAt 22 = .ok (.iload_n 0, 1) := by decide +kernel
theorem dX6_tuftAt_23 : decode cX6_tuftAt 23 = .ok (.bipush 8, 2) := by decide +kernel
theorem dX6_tuftAt_25 : decode cX6_tuftAt 25 = .ok (.imul, 1) := by decide +kernel
theorem dX6_tuftAt_26 : decode cX6_tuftAt 26 = .ok (.iload_n 1, 1) := by decide +kernel
theorem dX6_tuftAt_27 : decode cX6_tuftAt 27 = .ok (.iadd, 1) := by decide +kernel
theorem dX6_tuftAt_28 : decode cX6_tuftAt 28 = .ok (.ireturn, 1) := by decide +kernel
set_option maxRecDepth 20000 in
theorem ggX6_stepFrom_X6_tuftAt : GoodIn wsX6_stepFrom wsX6_tuftAt := goodIn_r _ [6] (by decide +kernel) (by decide +kernel)
set_option maxRecDepth 20000 in
theorem gX6_stepFrom_X6_tuftAt : GoodIn wsX6_stepFrom (va_wsS RX6 340 yX6_tuftAt wsX6_tuftAt) := goodIn_app (goodIn_of _ (by decide +kernel)) ggX6_stepFrom_X6_tuftAt
theorem dX6_stepFrom_0 : decode cX6_stepFrom 0 = .ok (.iload_n 1, 1) := by decide +kernel
theorem dX6_stepFrom_1 : decode cX6_stepFrom 1 = .ok (.ifCond .lt 8, 3) := by decide +kernel
theorem dX6_stepFrom_4 : decode cX6_stepFrom 4 = .ok (.iload_n 1, 1) := by decide +kernel
theorem dX6_stepFrom_5 : decode cX6_stepFrom 5 = .ok (.iconst 3, 1) := by decide +kernel
theorem dX6_stepFrom_6 : decode cX6_stepFrom 6 = .ok (.if_icmp .le 5, 3) := by decide +kernel
theorem dX6_stepFrom_9 : decode cX6_stepFrom 9 = .ok (.iconst (-1), 1) := by decide +kernel
theorem dX6_stepFrom_10 : decode cX6_stepFrom 10 = .ok (.ireturn, 1) := by decide +kernel
theorem dX6_stepFrom_11 : decode cX6_stepFrom 11 = .ok (.iload_n 0, 1) := by decide +kernel
theorem dX6_stepFrom_12 : decode cX6_stepFrom 12 = .ok (.bipush 8, 2) := by decide +kernel
theorem dX6_stepFrom_14 : decode cX6_stepFrom 14 = .ok (.idiv, 1) := by decide +kernel
theorem dX6_stepFrom_15 : decode cX6_stepFrom 15 = .ok (.getstatic 334, 3) := by decide +kernel
theorem dX6_stepFrom_18 : decode cX6_stepFrom 18 = .ok (.iload_n 1, 1) := by decide +kernel
theorem dX6_stepFrom_19 : decode cX6_stepFrom 19 = .ok (.iaload, 1) := by decide +kernel
theorem dX6_stepFrom_20 : decode cX6_stepFrom 20 = .ok (.iadd, 1) := by decide +kernel
theorem dX6_stepFrom_21 : decode cX6_stepFrom 21 = .ok (.iload_n 0, 1) := by decide +kernel
theorem dX6_stepFrom_22 : decode cX6_stepFrom 22 = .ok (.bipush 8, 2) := by decide +kernel
theorem dX6_stepFrom_24 : decode cX6_stepFrom 24 = .ok (.irem, 1) := by decide +kernel
theorem dX6_stepFrom_25 : decode cX6_stepFrom 25 = .ok (.getstatic 337, 3) := by decide +kernel
theorem dX6_stepFrom_28 : decode cX6_stepFrom 28 = .ok (.iload_n 1, 1) := by decide +kernel
theorem dX6_stepFrom_29 : decode cX6_stepFrom 29 = .ok (.iaload, 1) := by decide +kernel
theorem dX6_stepFrom_30 : decode cX6_stepFrom 30 = .ok (.iadd, 1) := by decide +kernel
theorem dX6_stepFrom_31 : decode cX6_stepFrom 31 = .ok (.invokestatic 340, 3) := by decide +kernel
theorem dX6_stepFrom_34 : decode cX6_stepFrom 34 = .ok (.ireturn, 1) := by decide +kernel
set_option maxRecDepth 20000 in
theorem ggX6_neighbour_X6_tuftAt : GoodIn wsX6_neighbour wsX6_tuftAt := goodIn_r _ [6] (by decide +kernel) (by decide +kernel)
set_option maxRecDepth 20000 in
theorem gX6_neighbour_X6_tuftAt : GoodIn wsX6_neighbour (va_wsS RX6 340 yX6_tuftAt wsX6_tuftAt) := goodIn_app (goodIn_of _ (by decide +kernel)) ggX6_neighbour_X6_tuftAt
theorem dX6_neighbour_0 : decode cX6_neighbour 0 = .ok (.iload_n 1, 1) := by decide +kernel
theorem dX6_neighbour_1 : decode cX6_neighbour 1 = .ok (.ifCond .lt 9, 3) := by decide +kernel
theorem dX6_neighbour_4 : decode cX6_neighbour 4 = .ok (.iload_n 1, 1) := by decide +kernel
theorem dX6_neighbour_5 : decode cX6_neighbour 5 = .ok (.bipush 8, 2) := by decide +kernel
theorem dX6_neighbour_7 : decode cX6_neighbour 7 = .ok (.if_icmp .lt 5, 3) := by decide +kernel
theorem dX6_neighbour_10 : decode cX6_neighbour 10 = .ok (.iconst (-1), 1) := by decide +kernel
theorem dX6_neighbour_11 : decode cX6_neighbour 11 = .ok (.ireturn, 1) := by decide +kernel
theorem dX6_neighbour_12 : decode cX6_neighbour 12 = .ok (.iload_n 0, 1) := by decide +kernel
theorem dX6_neighbour_13 : decode cX6_neighbour 13 = .ok (.bipush 8, 2) := by decide +kernel
theorem dX6_neighbour_15 : decode cX6_neighbour 15 = .ok (.idiv, 1) := by decide +kernel
theorem dX6_neighbour_16 : decode cX6_neighbour 16 = .ok (.getstatic 343, 3) := by decide +kernel
theorem dX6_neighbour_19 : decode cX6_neighbour 19 = .ok (.iload_n 1, 1) := by decide +kernel
theorem dX6_neighbour_20 : decode cX6_neighbour 20 = .ok (.iaload, 1) := by decide +kernel
theorem dX6_neighbour_21 : decode cX6_neighbour 21 = .ok (.iadd, 1) := by decide +kernel
theorem dX6_neighbour_22 : decode cX6_neighbour 22 = .ok (.iload_n 0, 1) := by decide +kernel
theorem dX6_neighbour_23 : decode cX6_neighbour 23 = .ok (.bipush 8, 2) := by decide +kernel
theorem dX6_neighbour_25 : decode cX6_neighbour 25 = .ok (.irem, 1) := by decide +kernel
theorem dX6_neighbour_26 : decode cX6_neighbour 26 = .ok (.getstatic 346, 3) := by decide +kernel
theorem dX6_neighbour_29 : decode cX6_neighbour 29 = .ok (.iload_n 1, 1) := by decide +kernel
theorem dX6_neighbour_30 : decode cX6_neighbour 30 = .ok (.iaload, 1) := by decide +kernel
theorem dX6_neighbour_31 : decode cX6_neighbour 31 = .ok (.iadd, 1) := by decide +kernel
theorem dX6_neighbour_32 : decode cX6_neighbour 32 = .ok (.invokestatic 340, 3) := by decide +kernel
theorem dX6_neighbour_35 : decode cX6_neighbour 35 = .ok (.ireturn, 1) := by decide +kernel
