set_option maxRecDepth 20000 in
theorem ggX7_ifDug_X7_isTuft : GoodIn wsX7_ifDug wsX7_isTuft := goodIn_r _ [4, 5, 6, 3, 7] (by decide +kernel) (by decide +kernel)
set_option maxRecDepth 20000 in
theorem gX7_ifDug_X7_isTuft : GoodIn wsX7_ifDug (va_wsS RX7 120 yX7_isTuft wsX7_isTuft) := goodIn_app (goodIn_of _ (by decide +kernel)) ggX7_ifDug_X7_isTuft
set_option maxRecDepth 20000 in
theorem ggX7_ifDug_X7_in : GoodIn wsX7_ifDug wsX7_in := goodIn_r _ [7] (by decide +kernel) (by decide +kernel)
set_option maxRecDepth 20000 in
theorem gX7_ifDug_X7_in : GoodIn wsX7_ifDug (va_wsS RX7 42 yX7_in wsX7_in) := goodIn_app (goodIn_of _ (by decide +kernel)) ggX7_ifDug_X7_in
set_option maxRecDepth 20000 in
theorem ggX7_ifDug_X7_holds : GoodIn wsX7_ifDug wsX7_holds := goodIn_r _ [11, 12, 91, 92, 93, 94, 95, 96, 97, 98, 99, 100, 101, 102, 103, 104, 105, 106] (by decide +kernel) (by decide +kernel)
set_option maxRecDepth 20000 in
theorem gX7_ifDug_X7_holds : GoodIn wsX7_ifDug (wsV RX7 123 RX7 yX7_holds wsX7_holds) := goodIn_app (goodIn_of _ (by decide +kernel)) ggX7_ifDug_X7_holds
set_option maxRecDepth 20000 in
theorem ggX7_ifDug_X7_whenDug : GoodIn wsX7_ifDug wsX7_whenDug := goodIn_r _ [16, 17, 18, 19, 20, 3, 21, 22, 23, 24, 25, 26, 27, 28, 29, 30, 31, 32, 33, 34, 35, 36, 37, 38, 39, 40, 41, 42, 43, 44, 45, 46, 47, 48, 49, 50, 51, 52, 53, 54, 55, 56, 57, 58, 59, 60, 61, 62, 63, 64, 65, 66, 67, 68, 69, 70, 71, 72, 73, 74, 75, 76, 77, 78, 79, 80, 81, 82, 83, 84, 85, 86, 87, 88, 89, 90, 91, 92, 93, 94, 95, 96, 97, 98, 99, 100, 101, 102, 103, 104, 105, 106] (by decide +kernel) (by decide +kernel)
set_option maxRecDepth 20000 in
theorem gX7_ifDug_X7_whenDug : GoodIn wsX7_ifDug (wsV RX7 263 RX7 yX7_whenDug wsX7_whenDug) := goodIn_app (goodIn_of _ (by decide +kernel)) ggX7_ifDug_X7_whenDug
theorem dX7_ifDug_0 : decode cX7_ifDug 0 = .ok (.aload_n 0, 1) := by decide +kernel
theorem dX7_ifDug_1 : decode cX7_ifDug 1 = .ok (.iload_n 1, 1) := by decide +kernel
theorem dX7_ifDug_2 : decode cX7_ifDug 2 = .ok (.invokestatic 120, 3) := by decide +kernel
theorem dX7_ifDug_5 : decode cX7_ifDug 5 = .ok (.ifCond .ne 7, 3) := by decide +kernel
theorem dX7_ifDug_8 : decode cX7_ifDug 8 = .ok (.iconst 1, 1) := by decide +kernel
theorem dX7_ifDug_9 : decode cX7_ifDug 9 = .ok (.goto 17, 3) := by decide +kernel
theorem dX7_ifDug_12 : decode cX7_ifDug 12 = .ok (.iload_n 2, 1) := by decide +kernel
theorem dX7_ifDug_13 : decode cX7_ifDug 13 = .ok (.iconst 0, 1) := by decide +kernel
theorem dX7_ifDug_14 : decode cX7_ifDug 14 = .ok (.iconst 2, 1) := by decide +kernel
theorem dX7_ifDug_15 : decode cX7_ifDug 15 = .ok (.invokestatic 42, 3) := by decide +kernel
theorem dX7_ifDug_18 : decode cX7_ifDug 18 = .ok (.ifCond .ne 7, 3) := by decide +kernel
theorem dX7_ifDug_21 : decode cX7_ifDug 21 = .ok (.iconst 2, 1) := by decide +kernel
theorem dX7_ifDug_22 : decode cX7_ifDug 22 = .ok (.goto 4, 3) := by decide +kernel
theorem dX7_ifDug_25 : decode cX7_ifDug 25 = .ok (.iconst 0, 1) := by decide +kernel
theorem dX7_ifDug_26 : decode cX7_ifDug 26 = .ok (.invokevirtual 123, 3) := by decide +kernel
theorem dX7_ifDug_29 : decode cX7_ifDug 29 = .ok (.ifCond .eq 12, 3) := by decide +kernel
theorem dX7_ifDug_32 : decode cX7_ifDug 32 = .ok (.aload_n 0, 1) := by decide +kernel
theorem dX7_ifDug_33 : decode cX7_ifDug 33 = .ok (.iload_n 1, 1) := by decide +kernel
theorem dX7_ifDug_34 : decode cX7_ifDug 34 = .ok (.iload_n 2, 1) := by decide +kernel
theorem dX7_ifDug_35 : decode cX7_ifDug 35 = .ok (.invokevirtual 263, 3) := by decide +kernel
theorem dX7_ifDug_38 : decode cX7_ifDug 38 = .ok (.goto 4, 3) := by decide +kernel
theorem dX7_ifDug_41 : decode cX7_ifDug 41 = .ok (.iconst 0, 1) := by decide +kernel
theorem dX7_ifDug_42 : decode cX7_ifDug 42 = .ok (.ireturn, 1) := by decide +kernel
set_option maxRecDepth 20000 in
theorem ggX7_best_X7_tunnelsWith : GoodIn wsX7_best wsX7_tunnelsWith := goodIn_r _ [6, 1, 7, 8, 9, 5, 10, 11, 12, 13, 14, 15, 16, 17, 18, 19, 20, 21, 22, 23, 24, 25, 26, 27, 28, 29, 30, 31, 32, 33, 34] (by decide +kernel) (by decide +kernel)
set_option maxRecDepth 20000 in
theorem gX7_best_X7_tunnelsWith : GoodIn wsX7_best (wsV RX7 215 RX7 yX7_tunnelsWith wsX7_tunnelsWith) := goodIn_app (goodIn_of _ (by decide +kernel)) ggX7_best_X7_tunnelsWith
theorem dX7_best_0 : decode cX7_best 0 = .ok (.iconst (-1), 1) := by decide +kernel
theorem dX7_best_1 : decode cX7_best 1 = .ok (.istore_n 1, 1) := by decide +kernel
theorem dX7_best_2 : decode cX7_best 2 = .ok (.iconst 0, 1) := by decide +kernel
theorem dX7_best_3 : decode cX7_best 3 = .ok (.istore_n 2, 1) := by decide +kernel
theorem dX7_best_4 : decode cX7_best 4 = .ok (.iconst 0, 1) := by decide +kernel
theorem dX7_best_5 : decode cX7_best 5 = .ok (.istore_n 3, 1) := by decide +kernel
theorem dX7_best_6 : decode cX7_best 6 = .ok (.iload_n 3, 1) := by decide +kernel
theorem dX7_best_7 : decode cX7_best 7 = .ok (.bipush 64, 2) := by decide +kernel
theorem dX7_best_9 : decode cX7_best 9 = .ok (.if_icmp .ge 59, 3) := by decide +kernel
theorem dX7_best_12 : decode cX7_best 12 = .ok (.aload_n 0, 1) := by decide +kernel
theorem dX7_best_13 : decode cX7_best 13 = .ok (.getfield 7, 3) := by decide +kernel
theorem dX7_best_16 : decode cX7_best 16 = .ok (.sipush 200, 3) := by decide +kernel
theorem dX7_best_19 : decode cX7_best 19 = .ok (.iload_n 3, 1) := by decide +kernel
theorem dX7_best_20 : decode cX7_best 20 = .ok (.iadd, 1) := by decide +kernel
theorem dX7_best_21 : decode cX7_best 21 = .ok (.iaload, 1) := by decide +kernel
theorem dX7_best_22 : decode cX7_best 22 = .ok (.iconst 1, 1) := by decide +kernel
theorem dX7_best_23 : decode cX7_best 23 = .ok (.if_icmp .ne 7, 3) := by decide +kernel
theorem dX7_best_26 : decode cX7_best 26 = .ok (.iconst 0, 1) := by decide +kernel
theorem dX7_best_27 : decode cX7_best 27 = .ok (.goto 8, 3) := by decide +kernel
theorem dX7_best_30 : decode cX7_best 30 = .ok (.aload_n 0, 1) := by decide +kernel
theorem dX7_best_31 : decode cX7_best 31 = .ok (.iload_n 3, 1) := by decide +kernel
theorem dX7_best_32 : decode cX7_best 32 = .ok (.invokevirtual 215, 3) := by decide +kernel
theorem dX7_best_35 : decode cX7_best 35 = .ok (.istore 4, 2) := by decide +kernel
theorem dX7_best_37 : decode cX7_best 37 = .ok (.iload 4, 2) := by decide +kernel
theorem dX7_best_39 : decode cX7_best 39 = .ok (.iload_n 2, 1) := by decide +kernel
theorem dX7_best_40 : decode cX7_best 40 = .ok (.if_icmp .le 7, 3) := by decide +kernel
theorem dX7_best_43 : decode cX7_best 43 = .ok (.iload_n 3, 1) := by decide +kernel
theorem dX7_best_44 : decode cX7_best 44 = .ok (.goto 4, 3) := by decide +kernel
theorem dX7_best_47 : decode cX7_best 47 = .ok (.iload_n 1, 1) := by decide +kernel
theorem dX7_best_48 : decode cX7_best 48 = .ok (.istore_n 1, 1) := by decide +kernel
theorem dX7_best_49 : decode cX7_best 49 = .ok (.iload 4, 2) := by decide +kernel
theorem dX7_best_51 : decode cX7_best 51 = .ok (.iload_n 2, 1) := by decide +kernel
theorem dX7_best_52 : decode cX7_best 52 = .ok (.if_icmp .le 8, 3) := by decide +kernel
theorem dX7_best_55 : decode cX7_best 55 = .ok (.iload 4, 2) := by decide +kernel
theorem dX7_best_57 : decode cX7_best 57 = .ok (.goto 4, 3) := by decide +kernel
theorem dX7_best_60 : decode cX7_best 60 = .ok (.iload_n 2, 1) := by decide +kernel
theorem dX7_best_61 : decode cX7_best 61 = .ok (.istore_n 2, 1) := by decide +kernel
theorem dX7_best_62 : decode cX7_best 62 = .ok (.iinc 3 1, 3) := by decide +kernel
theorem dX7_best_65 : decode cX7_best 65 = .ok (.goto (-59), 3) := by decide +kernel
theorem dX7_best_68 : decode cX7_best 68 = .ok (.iload_n 1, 1) := by decide +kernel
theorem dX7_best_69 : decode cX7_best 69 = .ok (.ireturn, 1) := by decide +kernel
set_option maxRecDepth 20000 in
theorem ggX7_bestDig_X7_best : GoodIn wsX7_bestDig wsX7_best := goodIn_r _ [6, 7, 8, 9, 10, 5, 11, 12, 13, 14, 15, 16, 17, 18, 19, 20, 21, 22, 23, 24, 25, 26, 27, 28, 29, 30, 31, 32, 33, 34, 35, 36, 37, 38, 39] (by decide +kernel) (by decide +kernel)
set_option maxRecDepth 20000 in
theorem gX7_bestDig_X7_best : GoodIn wsX7_bestDig (wsV RX7 266 RX7 yX7_best wsX7_best) := goodIn_app (goodIn_of _ (by decide +kernel)) ggX7_bestDig_X7_best
theorem dX7_bestDig_0 : decode cX7_bestDig 0 = .ok (.aload_n 0, 1) := by decide +kernel
theorem dX7_bestDig_1 : decode cX7_bestDig 1 = .ok (.iconst 0, 1) := by decide +kernel
theorem dX7_bestDig_2 : decode cX7_bestDig 2 = .ok (.putfield 38, 3) := by decide +kernel
theorem dX7_bestDig_5 : decode cX7_bestDig 5 = .ok (.aload_n 0, 1) := by decide +kernel
theorem dX7_bestDig_6 : decode cX7_bestDig 6 = .ok (.invokevirtual 266, 3) := by decide +kernel
theorem dX7_bestDig_9 : decode cX7_bestDig 9 = .ok (.ireturn, 1) := by decide +kernel
set_option maxRecDepth 20000 in
theorem ggX7_passed_X7_putAside : GoodIn wsX7_passed wsX7_putAside := goodIn_r _ [6, 7, 1, 100, 101, 102, 103, 104, 105, 106, 107, 108, 109, 110, 111, 112, 113, 114, 115] (by decide +kernel) (by decide +kernel)
set_option maxRecDepth 20000 in
theorem gX7_passed_X7_putAside : GoodIn wsX7_passed (wsV RX7 257 RX7 yX7_putAside wsX7_putAside) := goodIn_app (goodIn_of _ (by decide +kernel)) ggX7_passed_X7_putAside
set_option maxRecDepth 20000 in
theorem ggX7_passed_X7_beats : GoodIn wsX7_passed wsX7_beats := goodIn_r _ [11, 1, 12, 13, 14, 5, 15, 16, 17, 18, 19, 20, 21, 22, 23, 24, 25, 26, 27, 28, 29, 30, 31, 32, 33, 34, 35, 36, 37, 38, 39, 40, 41, 42, 43, 44, 45, 46, 47, 48, 49, 50, 51, 52, 53, 54, 55, 56, 57, 58, 59, 60, 61, 62, 63, 64, 65, 66, 67, 68, 69, 70, 71, 72, 73, 74, 75, 76, 77, 78, 79, 80, 81, 82, 83, 84, 85, 86, 87, 88, 89, 90, 91, 100, 101, 102, 103, 104, 105, 106, 107, 108, 109, 110, 111, 112, 113, 114, 115] (by decide +kernel) (by decide +kernel)
set_option maxRecDepth 20000 in
theorem gX7_passed_X7_beats : GoodIn wsX7_passed (wsV RX7 132 RX7 yX7_beats wsX7_beats) := goodIn_app (goodIn_of _ (by decide +kernel)) ggX7_passed_X7_beats
set_option maxRecDepth 20000 in
theorem ggX7_passed_X7_tunnels : GoodIn wsX7_passed wsX7_tunnels := goodIn_r _ [95, 1, 100, 101, 102, 103, 104, 105, 106, 107, 108, 109, 110, 111, 112, 113, 114, 115] (by decide +kernel) (by decide +kernel)
set_option maxRecDepth 20000 in
theorem gX7_passed_X7_tunnels : GoodIn wsX7_passed (wsV RX7 194 RX7 yX7_tunnels wsX7_tunnels) := goodIn_app (goodIn_of _ (by decide +kernel)) ggX7_passed_X7_tunnels
set_option maxRecDepth 20000 in
theorem ggX7_passed_X7_putBack : GoodIn wsX7_passed wsX7_putBack := goodIn_r _ [99, 1, 7, 100, 101, 102, 103, 104, 105, 106, 107, 108, 109, 110, 111, 112, 113, 114, 115] (by decide +kernel) (by decide +kernel)
set_option maxRecDepth 20000 in
theorem gX7_passed_X7_putBack : GoodIn wsX7_passed (wsV RX7 260 RX7 yX7_putBack wsX7_putBack) := goodIn_app (goodIn_of _ (by decide +kernel)) ggX7_passed_X7_putBack
theorem dX7_passed_0 : decode cX7_passed 0 = .ok (.aload_n 0, 1) := by decide +kernel
theorem dX7_passed_1 : decode cX7_passed 1 = .ok (.invokevirtual 257, 3) := by decide +kernel
theorem dX7_passed_4 : decode cX7_passed 4 = .ok (.aload_n 0, 1) := by decide +kernel
theorem dX7_passed_5 : decode cX7_passed 5 = .ok (.getfield 7, 3) := by decide +kernel
theorem dX7_passed_8 : decode cX7_passed 8 = .ok (.iconst 2, 1) := by decide +kernel
theorem dX7_passed_9 : decode cX7_passed 9 = .ok (.iaload, 1) := by decide +kernel
theorem dX7_passed_10 : decode cX7_passed 10 = .ok (.istore_n 3, 1) := by decide +kernel
theorem dX7_passed_11 : decode cX7_passed 11 = .ok (.aload_n 0, 1) := by decide +kernel
theorem dX7_passed_12 : decode cX7_passed 12 = .ok (.iload_n 1, 1) := by decide +kernel
theorem dX7_passed_13 : decode cX7_passed 13 = .ok (.invokevirtual 132, 3) := by decide +kernel
theorem dX7_passed_16 : decode cX7_passed 16 = .ok (.istore 4, 2) := by decide +kernel
theorem dX7_passed_18 : decode cX7_passed 18 = .ok (.iload_n 2, 1) := by decide +kernel
theorem dX7_passed_19 : decode cX7_passed 19 = .ok (.ifCond .ne 8, 3) := by decide +kernel
theorem dX7_passed_22 : decode cX7_passed 22 = .ok (.iload 4, 2) := by decide +kernel
theorem dX7_passed_24 : decode cX7_passed 24 = .ok (.goto 23, 3) := by decide +kernel
theorem dX7_passed_27 : decode cX7_passed 27 = .ok (.iload_n 2, 1) := by decide +kernel
theorem dX7_passed_28 : decode cX7_passed 28 = .ok (.iconst 1, 1) := by decide +kernel
theorem dX7_passed_29 : decode cX7_passed 29 = .ok (.if_icmp .ne 10, 3) := by decide +kernel
theorem dX7_passed_32 : decode cX7_passed 32 = .ok (.aload_n 0, 1) := by decide +kernel
theorem dX7_passed_33 : decode cX7_passed 33 = .ok (.invokevirtual 194, 3) := by decide +kernel
theorem dX7_passed_36 : decode cX7_passed 36 = .ok (.goto 11, 3) := by decide +kernel
theorem dX7_passed_39 : decode cX7_passed 39 = .ok (.aload_n 0, 1) := by decide +kernel
theorem dX7_passed_40 : decode cX7_passed 40 = .ok (.getfield 7, 3) := by decide +kernel
theorem dX7_passed_43 : decode cX7_passed 43 = .ok (.iconst 2, 1) := by decide +kernel
theorem dX7_passed_44 : decode cX7_passed 44 = .ok (.iaload, 1) := by decide +kernel
theorem dX7_passed_45 : decode cX7_passed 45 = .ok (.iload_n 3, 1) := by decide +kernel
theorem dX7_passed_46 : decode cX7_passed 46 = .ok (.isub, 1) := by decide +kernel
theorem dX7_passed_47 : decode cX7_passed 47 = .ok (.istore 5, 2) := by decide +kernel
theorem dX7_passed_49 : decode cX7_passed 49 = .ok (.aload_n 0, 1) := by decide +kernel
theorem dX7_passed_50 : decode cX7_passed 50 = .ok (.invokevirtual 260, 3) := by decide +kernel
theorem dX7_passed_53 : decode cX7_passed 53 = .ok (.iload 5, 2) := by decide +kernel
theorem dX7_passed_55 : decode cX7_passed 55 = .ok (.ireturn, 1) := by decide +kernel
set_option maxRecDepth 20000 in
theorem ggX7_ifPassed_X7_in : GoodIn wsX7_ifPassed wsX7_in := goodIn_r _ [4] (by decide +kernel) (by decide +kernel)
set_option maxRecDepth 20000 in
theorem gX7_ifPassed_X7_in : GoodIn wsX7_ifPassed (va_wsS RX7 42 yX7_in wsX7_in) := goodIn_app (goodIn_of _ (by decide +kernel)) ggX7_ifPassed_X7_in
set_option maxRecDepth 20000 in
theorem ggX7_ifPassed_X7_holds : GoodIn wsX7_ifPassed wsX7_holds := goodIn_r _ [8, 9, 109, 110, 111, 112, 113, 114, 115, 116, 117, 118, 119, 120, 121, 122, 123, 124] (by decide +kernel) (by decide +kernel)
set_option maxRecDepth 20000 in
theorem gX7_ifPassed_X7_holds : GoodIn wsX7_ifPassed (wsV RX7 123 RX7 yX7_holds wsX7_holds) := goodIn_app (goodIn_of _ (by decide +kernel)) ggX7_ifPassed_X7_holds
set_option maxRecDepth 20000 in
theorem ggX7_ifPassed_X7_passed : GoodIn wsX7_ifPassed wsX7_passed := goodIn_r _ [13, 14, 15, 16, 17, 3, 18, 19, 20, 21, 22, 23, 24, 25, 26, 27, 28, 29, 30, 31, 32, 33, 34, 35, 36, 37, 38, 39, 40, 1, 2, 4, 41, 42, 43, 44, 45, 46, 47, 48, 49, 50, 51, 52, 53, 54, 55, 56, 57, 58, 59, 60, 61, 62, 63, 64, 65, 66, 67, 68, 69, 70, 71, 72, 73, 74, 75, 76, 77, 78, 79, 80, 81, 82, 83, 84, 85, 86, 87, 88, 89, 90, 91, 92, 93, 94, 95, 96, 97, 98, 99, 100, 101, 102, 103, 104, 105, 106, 107, 108, 109, 110, 111, 112, 113, 114, 115, 116, 117, 118, 119, 120, 121, 122, 123, 124] (by decide +kernel) (by decide +kernel)
set_option maxRecDepth 20000 in
theorem gX7_ifPassed_X7_passed : GoodIn wsX7_ifPassed (wsV RX7 269 RX7 yX7_passed wsX7_passed) := goodIn_app (goodIn_of _ (by decide +kernel)) ggX7_ifPassed_X7_passed
theorem dX7_ifPassed_0 : decode cX7_ifPassed 0 = .ok (.aload_n 0, 1) := by decide +kernel
theorem dX7_ifPassed_1 : decode cX7_ifPassed 1 = .ok (.iload_n 1, 1) := by decide +kernel
theorem dX7_ifPassed_2 : decode cX7_ifPassed 2 = .ok (.iconst 1, 1) := by decide +kernel
theorem dX7_ifPassed_3 : decode cX7_ifPassed 3 = .ok (.bipush 30, 2) := by decide +kernel
theorem dX7_ifPassed_5 : decode cX7_ifPassed 5 = .ok (.invokestatic 42, 3) := by decide +kernel
theorem dX7_ifPassed_8 : decode cX7_ifPassed 8 = .ok (.ifCond .eq 16, 3) := by decide +kernel
theorem dX7_ifPassed_11 : decode cX7_ifPassed 11 = .ok (.iload_n 2, 1) := by decide +kernel
theorem dX7_ifPassed_12 : decode cX7_ifPassed 12 = .ok (.iconst 0, 1) := by decide +kernel
theorem dX7_ifPassed_13 : decode cX7_ifPassed 13 = .ok (.iconst 2, 1) := by decide +kernel
theorem dX7_ifPassed_14 : decode cX7_ifPassed 14 = .ok (.invokestatic 42, 3) := by decide +kernel
theorem dX7_ifPassed_17 : decode cX7_ifPassed 17 = .ok (.ifCond .eq 7, 3) := by decide +kernel
theorem dX7_ifPassed_20 : decode cX7_ifPassed 20 = .ok (.iconst 0, 1) := by decide +kernel
theorem dX7_ifPassed_21 : decode cX7_ifPassed 21 = .ok (.goto 4, 3) := by decide +kernel
theorem dX7_ifPassed_24 : decode cX7_ifPassed 24 = .ok (.iconst 1, 1) := by decide +kernel
theorem dX7_ifPassed_25 : decode cX7_ifPassed 25 = .ok (.invokevirtual 123, 3) := by decide +kernel
theorem dX7_ifPassed_28 : decode cX7_ifPassed 28 = .ok (.ifCond .eq 12, 3) := by decide +kernel
theorem dX7_ifPassed_31 : decode cX7_ifPassed 31 = .ok (.aload_n 0, 1) := by decide +kernel
theorem dX7_ifPassed_32 : decode cX7_ifPassed 32 = .ok (.iload_n 1, 1) := by decide +kernel
theorem dX7_ifPassed_33 : decode cX7_ifPassed 33 = .ok (.iload_n 2, 1) := by decide +kernel
theorem dX7_ifPassed_34 : decode cX7_ifPassed 34 = .ok (.invokevirtual 269, 3) := by decide +kernel
theorem dX7_ifPassed_37 : decode cX7_ifPassed 37 = .ok (.goto 4, 3) := by decide +kernel
theorem dX7_ifPassed_40 : decode cX7_ifPassed 40 = .ok (.iconst 0, 1) := by decide +kernel
theorem dX7_ifPassed_41 : decode cX7_ifPassed 41 = .ok (.ireturn, 1) := by decide +kernel
set_option maxRecDepth 20000 in
theorem ggX7_whenMound_X7_putAside : GoodIn wsX7_whenMound wsX7_putAside := goodIn_r _ [5, 6, 7, 96, 97, 98, 99, 100, 101, 102, 103, 104, 105, 106, 107, 108, 109, 110, 111] (by decide +kernel) (by decide +kernel)
set_option maxRecDepth 20000 in
theorem gX7_whenMound_X7_putAside : GoodIn wsX7_whenMound (wsV RX7 257 RX7 yX7_putAside wsX7_putAside) := goodIn_app (goodIn_of _ (by decide +kernel)) ggX7_whenMound_X7_putAside
set_option maxRecDepth 20000 in
theorem ggX7_whenMound_X7_beats : GoodIn wsX7_whenMound wsX7_beats := goodIn_r _ [11, 7, 12, 13, 14, 4, 15, 16, 17, 18, 19, 20, 21, 22, 23, 24, 25, 26, 27, 28, 29, 30, 31, 32, 33, 34, 35, 36, 37, 38, 39, 40, 41, 42, 43, 44, 45, 46, 47, 48, 49, 50, 51, 52, 53, 54, 55, 56, 57, 58, 59, 60, 61, 62, 63, 64, 65, 66, 67, 68, 69, 70, 71, 72, 73, 74, 75, 76, 77, 78, 79, 80, 81, 82, 83, 84, 85, 86, 87, 88, 89, 90, 91, 96, 97, 98, 99, 100, 101, 102, 103, 104, 105, 106, 107, 108, 109, 110, 111] (by decide +kernel) (by decide +kernel)
set_option maxRecDepth 20000 in
theorem gX7_whenMound_X7_beats : GoodIn wsX7_whenMound (wsV RX7 132 RX7 yX7_beats wsX7_beats) := goodIn_app (goodIn_of _ (by decide +kernel)) ggX7_whenMound_X7_beats
set_option maxRecDepth 20000 in
theorem ggX7_whenMound_X7_putBack : GoodIn wsX7_whenMound wsX7_putBack := goodIn_r _ [95, 7, 6, 96, 97, 98, 99, 100, 101, 102, 103, 104, 105, 106, 107, 108, 109, 110, 111] (by decide +kernel) (by decide +kernel)
set_option maxRecDepth 20000 in
theorem gX7_whenMound_X7_putBack : GoodIn wsX7_whenMound (wsV RX7 260 RX7 yX7_putBack wsX7_putBack) := goodIn_app (goodIn_of _ (by decide +kernel)) ggX7_whenMound_X7_putBack
theorem dX7_whenMound_0 : decode cX7_whenMound 0 = .ok (.aload_n 0, 1) := by decide +kernel
theorem dX7_whenMound_1 : decode cX7_whenMound 1 = .ok (.invokevirtual 257, 3) := by decide +kernel
theorem dX7_whenMound_4 : decode cX7_whenMound 4 = .ok (.iconst 0, 1) := by decide +kernel
theorem dX7_whenMound_5 : decode cX7_whenMound 5 = .ok (.istore_n 1, 1) := by decide +kernel
theorem dX7_whenMound_6 : decode cX7_whenMound 6 = .ok (.iconst 0, 1) := by decide +kernel
theorem dX7_whenMound_7 : decode cX7_whenMound 7 = .ok (.istore_n 2, 1) := by decide +kernel
theorem dX7_whenMound_8 : decode cX7_whenMound 8 = .ok (.iload_n 1, 1) := by decide +kernel
theorem dX7_whenMound_9 : decode cX7_whenMound 9 = .ok (.bipush 100, 2) := by decide +kernel
theorem dX7_whenMound_11 : decode cX7_whenMound 11 = .ok (.if_icmp .ge 19, 3) := by decide +kernel
theorem dX7_whenMound_14 : decode cX7_whenMound 14 = .ok (.iload_n 2, 1) := by decide +kernel
theorem dX7_whenMound_15 : decode cX7_whenMound 15 = .ok (.ifCond .ne 15, 3) := by decide +kernel
theorem dX7_whenMound_18 : decode cX7_whenMound 18 = .ok (.aload_n 0, 1) := by decide +kernel
theorem dX7_whenMound_19 : decode cX7_whenMound 19 = .ok (.iconst 1, 1) := by decide +kernel
theorem dX7_whenMound_20 : decode cX7_whenMound 20 = .ok (.invokevirtual 132, 3) := by decide +kernel
theorem dX7_whenMound_23 : decode cX7_whenMound 23 = .ok (.istore_n 2, 1) := by decide +kernel
theorem dX7_whenMound_24 : decode cX7_whenMound 24 = .ok (.iinc 1 1, 3) := by decide +kernel
theorem dX7_whenMound_27 : decode cX7_whenMound 27 = .ok (.goto (-19), 3) := by decide +kernel
theorem dX7_whenMound_30 : decode cX7_whenMound 30 = .ok (.aload_n 0, 1) := by decide +kernel
theorem dX7_whenMound_31 : decode cX7_whenMound 31 = .ok (.invokevirtual 260, 3) := by decide +kernel
theorem dX7_whenMound_34 : decode cX7_whenMound 34 = .ok (.iload_n 2, 1) := by decide +kernel
theorem dX7_whenMound_35 : decode cX7_whenMound 35 = .ok (.ifCond .le 7, 3) := by decide +kernel
theorem dX7_whenMound_38 : decode cX7_whenMound 38 = .ok (.iload_n 1, 1) := by decide +kernel
theorem dX7_whenMound_39 : decode cX7_whenMound 39 = .ok (.goto 4, 3) := by decide +kernel
theorem dX7_whenMound_42 : decode cX7_whenMound 42 = .ok (.iconst (-1), 1) := by decide +kernel
theorem dX7_whenMound_43 : decode cX7_whenMound 43 = .ok (.ireturn, 1) := by decide +kernel
set_option maxRecDepth 20000 in
theorem ggX7_nextMound_X7_whenMound : GoodIn wsX7_nextMound wsX7_whenMound := goodIn_r _ [6, 7, 8, 9, 5, 10, 11, 12, 13, 14, 15, 16, 17, 18, 19, 20, 21, 22, 23, 24, 25, 26, 27, 28, 29, 30, 31, 32, 33, 34, 35, 36, 37, 38, 39, 40, 41, 42, 43, 44, 45, 46, 47, 48, 49, 50, 51, 52, 53, 54, 55, 56, 57, 58, 59, 60, 61, 62, 63, 64, 65, 66, 67, 68, 69, 70, 71, 72, 73, 74, 75, 76, 77, 78, 79, 80, 81, 82, 83, 84, 85, 86, 87, 88, 89, 90, 91, 92, 93, 94, 95, 96, 97, 98, 99, 100, 101, 102, 103, 104, 105, 106, 107, 108, 109, 110, 111, 112, 113, 114, 115, 116] (by decide +kernel) (by decide +kernel)
set_option maxRecDepth 20000 in
theorem gX7_nextMound_X7_whenMound : GoodIn wsX7_nextMound (wsV RX7 272 RX7 yX7_whenMound wsX7_whenMound) := goodIn_app (goodIn_of _ (by decide +kernel)) ggX7_nextMound_X7_whenMound
theorem dX7_nextMound_0 : decode cX7_nextMound 0 = .ok (.aload_n 0, 1) := by decide +kernel
theorem dX7_nextMound_1 : decode cX7_nextMound 1 = .ok (.iconst 0, 1) := by decide +kernel
theorem dX7_nextMound_2 : decode cX7_nextMound 2 = .ok (.putfield 38, 3) := by decide +kernel
theorem dX7_nextMound_5 : decode cX7_nextMound 5 = .ok (.aload_n 0, 1) := by decide +kernel
theorem dX7_nextMound_6 : decode cX7_nextMound 6 = .ok (.invokevirtual 272, 3) := by decide +kernel
theorem dX7_nextMound_9 : decode cX7_nextMound 9 = .ok (.ireturn, 1) := by decide +kernel
set_option maxRecDepth 20000 in
theorem ggX7_share_X7_hollow : GoodIn wsX7_share wsX7_hollow := goodIn_r _ [6, 7, 8, 9, 10, 5, 11, 12, 13, 14, 15, 16, 17, 18, 19, 20, 21, 22, 23, 24, 25, 26, 27, 28, 29, 30, 31, 32, 33, 34, 35] (by decide +kernel) (by decide +kernel)
set_option maxRecDepth 20000 in
theorem gX7_share_X7_hollow : GoodIn wsX7_share (wsV RX7 245 RX7 yX7_hollow wsX7_hollow) := goodIn_app (goodIn_of _ (by decide +kernel)) ggX7_share_X7_hollow
theorem dX7_share_0 : decode cX7_share 0 = .ok (.aload_n 0, 1) := by decide +kernel
theorem dX7_share_1 : decode cX7_share 1 = .ok (.invokevirtual 245, 3) := by decide +kernel
theorem dX7_share_4 : decode cX7_share 4 = .ok (.i2d, 1) := by decide +kernel
theorem dX7_share_5 : decode cX7_share 5 = .ok (.ldc2_w 275, 3) := by decide +kernel
theorem dX7_share_8 : decode cX7_share 8 = .ok (.ddiv, 1) := by decide +kernel
theorem dX7_share_9 : decode cX7_share 9 = .ok (.dreturn, 1) := by decide +kernel
set_option maxRecDepth 20000 in
theorem ggX7_hollowShare_X7_share : GoodIn wsX7_hollowShare wsX7_share := goodIn_r _ [6, 7, 8, 9, 10, 5, 11, 12, 13, 14, 15, 16, 17, 18, 19, 20, 21, 22, 23, 24, 25, 26, 27, 28, 29, 30, 31, 32, 33, 34, 35, 36, 37, 38, 39, 40] (by decide +kernel) (by decide +kernel)
set_option maxRecDepth 20000 in
theorem gX7_hollowShare_X7_share : GoodIn wsX7_hollowShare (wsV RX7 277 RX7 yX7_share wsX7_share) := goodIn_app (goodIn_of _ (by decide +kernel)) ggX7_hollowShare_X7_share
theorem dX7_hollowShare_0 : decode cX7_hollowShare 0 = .ok (.aload_n 0, 1) := by decide +kernel
theorem dX7_hollowShare_1 : decode cX7_hollowShare 1 = .ok (.iconst 0, 1) := by decide +kernel
theorem dX7_hollowShare_2 : decode cX7_hollowShare 2 = .ok (.putfield 38, 3) := by decide +kernel
theorem dX7_hollowShare_5 : decode cX7_hollowShare 5 = .ok (.aload_n 0, 1) := by decide +kernel
theorem dX7_hollowShare_6 : decode cX7_hollowShare 6 = .ok (.invokevirtual 277, 3) := by decide +kernel
theorem dX7_hollowShare_9 : decode cX7_hollowShare 9 = .ok (.dreturn, 1) := by decide +kernel
theorem dX7_bitsOf_0 : decode cX7_bitsOf 0 = .ok (.dload_n 0, 1) := by decide +kernel
theorem dX7_bitsOf_1 : decode cX7_bitsOf 1 = .ok (.dconst 0, 1) := by decide +kernel
theorem dX7_bitsOf_2 : decode cX7_bitsOf 2 = .ok (.dcmp .l, 1) := by decide +kernel
theorem dX7_bitsOf_3 : decode cX7_bitsOf 3 = .ok (.ifCond .ne 5, 3) := by decide +kernel
theorem dX7_bitsOf_6 : decode cX7_bitsOf 6 = .ok (.lconst 0, 1) := by decide +kernel
theorem dX7_bitsOf_7 : decode cX7_bitsOf 7 = .ok (.lreturn, 1) := by decide +kernel
theorem dX7_bitsOf_8 : decode cX7_bitsOf 8 = .ok (.ldc2_w 281, 3) := by decide +kernel
theorem dX7_bitsOf_11 : decode cX7_bitsOf 11 = .ok (.lstore_n 2, 1) := by decide +kernel
theorem dX7_bitsOf_12 : decode cX7_bitsOf 12 = .ok (.dload_n 0, 1) := by decide +kernel
theorem dX7_bitsOf_13 : decode cX7_bitsOf 13 = .ok (.dstore 4, 2) := by decide +kernel
theorem dX7_bitsOf_15 : decode cX7_bitsOf 15 = .ok (.dload 4, 2) := by decide +kernel
theorem dX7_bitsOf_17 : decode cX7_bitsOf 17 = .ok (.dconst 1, 1) := by decide +kernel
theorem dX7_bitsOf_18 : decode cX7_bitsOf 18 = .ok (.dcmp .g, 1) := by decide +kernel
theorem dX7_bitsOf_19 : decode cX7_bitsOf 19 = .ok (.ifCond .ge 18, 3) := by decide +kernel
theorem dX7_bitsOf_22 : decode cX7_bitsOf 22 = .ok (.dload 4, 2) := by decide +kernel
theorem dX7_bitsOf_24 : decode cX7_bitsOf 24 = .ok (.ldc2_w 283, 3) := by decide +kernel
theorem dX7_bitsOf_27 : decode cX7_bitsOf 27 = .ok (.dmul, 1) := by decide +kernel
theorem dX7_bitsOf_28 : decode cX7_bitsOf 28 = .ok (.dstore 4, 2) := by decide +kernel
theorem dX7_bitsOf_30 : decode cX7_bitsOf 30 = .ok (.lload_n 2, 1) := by decide +kernel
theorem dX7_bitsOf_31 : decode cX7_bitsOf 31 = .ok (.lconst 1, 1) := by decide +kernel
theorem dX7_bitsOf_32 : decode cX7_bitsOf 32 = .ok (.lsub, 1) := by decide +kernel
theorem dX7_bitsOf_33 : decode cX7_bitsOf 33 = .ok (.lstore_n 2, 1) := by decide +kernel
theorem dX7_bitsOf_34 : decode cX7_bitsOf 34 = .ok (.goto (-19), 3) := by decide +kernel
theorem dX7_bitsOf_37 : decode cX7_bitsOf 37 = .ok (.lload_n 2, 1) := by decide +kernel
theorem dX7_bitsOf_38 : decode cX7_bitsOf 38 = .ok (.ldc2_w 285, 3) := by decide +kernel
theorem dX7_bitsOf_41 : decode cX7_bitsOf 41 = .ok (.lmul, 1) := by decide +kernel
theorem dX7_bitsOf_42 : decode cX7_bitsOf 42 = .ok (.dload 4, 2) := by decide +kernel
theorem dX7_bitsOf_44 : decode cX7_bitsOf 44 = .ok (.dconst 1, 1) := by decide +kernel
theorem dX7_bitsOf_45 : decode cX7_bitsOf 45 = .ok (.dsub, 1) := by decide +kernel
theorem dX7_bitsOf_46 : decode cX7_bitsOf 46 = .ok (.ldc2_w 287, 3) := by decide +kernel
theorem dX7_bitsOf_49 : decode cX7_bitsOf 49 = .ok (.dmul, 1) := by decide +kernel
theorem dX7_bitsOf_50 : decode cX7_bitsOf 50 = .ok (.d2l, 1) := by decide +kernel
theorem dX7_bitsOf_51 : decode cX7_bitsOf 51 = .ok (.ladd, 1) := by decide +kernel
theorem dX7_bitsOf_52 : decode cX7_bitsOf 52 = .ok (.lreturn, 1) := by decide +kernel
theorem dX7_digestOne_0 : decode cX7_digestOne 0 = .ok (.aload_n 0, 1) := by decide +kernel
theorem dX7_digestOne_1 : decode cX7_digestOne 1 = .ok (.ldc2_w 289, 3) := by decide +kernel
theorem dX7_digestOne_4 : decode cX7_digestOne 4 = .ok (.aload_n 0, 1) := by decide +kernel
theorem dX7_digestOne_5 : decode cX7_digestOne 5 = .ok (.getfield 291, 3) := by decide +kernel
theorem dX7_digestOne_8 : decode cX7_digestOne 8 = .ok (.lmul, 1) := by decide +kernel
theorem dX7_digestOne_9 : decode cX7_digestOne 9 = .ok (.lload_n 1, 1) := by decide +kernel
theorem dX7_digestOne_10 : decode cX7_digestOne 10 = .ok (.ladd, 1) := by decide +kernel
theorem dX7_digestOne_11 : decode cX7_digestOne 11 = .ok (.putfield 291, 3) := by decide +kernel
theorem dX7_digestOne_14 : decode cX7_digestOne 14 = .ok (.return_, 1) := by decide +kernel
set_option maxRecDepth 20000 in
theorem ggX7_digestLawn_X7_toldOfTuft : GoodIn wsX7_digestLawn wsX7_toldOfTuft := goodIn_r _ [6, 1, 7, 8, 9, 10, 11, 5, 12, 13, 14, 15, 16, 17, 18, 19, 20, 21, 22, 23, 24, 25, 26, 27, 28, 29, 30, 31, 32, 33, 34, 35, 36, 37, 38, 39, 40, 41, 42, 43, 44, 45, 46, 47, 48, 49, 50, 51, 52, 53, 54, 55, 56, 57, 84, 85, 86, 87, 88, 89, 90, 91, 92, 93, 94, 95, 96, 97, 98, 99] (by decide +kernel) (by decide +kernel)
set_option maxRecDepth 20000 in
theorem gX7_digestLawn_X7_toldOfTuft : GoodIn wsX7_digestLawn (wsV RX7 221 RX7 yX7_toldOfTuft wsX7_toldOfTuft) := goodIn_app (goodIn_of _ (by decide +kernel)) ggX7_digestLawn_X7_toldOfTuft
set_option maxRecDepth 20000 in
theorem ggX7_digestLawn_X7_digestOne : GoodIn wsX7_digestLawn wsX7_digestOne := goodIn_r _ [61, 62, 63, 84, 85, 86, 87, 88, 89, 90, 91, 92, 93, 94, 95, 96, 97, 98, 99] (by decide +kernel) (by decide +kernel)
set_option maxRecDepth 20000 in
theorem gX7_digestLawn_X7_digestOne : GoodIn wsX7_digestLawn (wsV RX7 295 RX7 yX7_digestOne wsX7_digestOne) := goodIn_app (goodIn_of _ (by decide +kernel)) ggX7_digestLawn_X7_digestOne
set_option maxRecDepth 20000 in
theorem ggX7_digestLawn_X7_toldOfMole : GoodIn wsX7_digestLawn wsX7_toldOfMole := goodIn_r _ [67, 1, 17, 18, 5, 19, 84, 85, 86, 87, 88, 89, 90, 91, 92, 93, 94, 95, 96, 97, 98, 99] (by decide +kernel) (by decide +kernel)
set_option maxRecDepth 20000 in
theorem gX7_digestLawn_X7_toldOfMole : GoodIn wsX7_digestLawn (wsV RX7 224 RX7 yX7_toldOfMole wsX7_toldOfMole) := goodIn_app (goodIn_of _ (by decide +kernel)) ggX7_digestLawn_X7_toldOfMole
set_option maxRecDepth 20000 in
theorem ggX7_digestLawn_X7_tunnels : GoodIn wsX7_digestLawn wsX7_tunnels := goodIn_r _ [71, 1, 84, 85, 86, 87, 88, 89, 90, 91, 92, 93, 94, 95, 96, 97, 98, 99] (by decide +kernel) (by decide +kernel)
set_option maxRecDepth 20000 in
theorem gX7_digestLawn_X7_tunnels : GoodIn wsX7_digestLawn (wsV RX7 194 RX7 yX7_tunnels wsX7_tunnels) := goodIn_app (goodIn_of _ (by decide +kernel)) ggX7_digestLawn_X7_tunnels
set_option maxRecDepth 20000 in
theorem ggX7_digestLawn_X7_toldOfTunnel : GoodIn wsX7_digestLawn wsX7_toldOfTunnel := goodIn_r _ [75, 76, 77, 78, 5, 79, 46, 47, 48, 49, 1, 13, 14, 15, 16, 84, 85, 86, 87, 88, 89, 90, 91, 92, 93, 94, 95, 96, 97, 98, 99] (by decide +kernel) (by decide +kernel)
set_option maxRecDepth 20000 in
theorem gX7_digestLawn_X7_toldOfTunnel : GoodIn wsX7_digestLawn (wsV RX7 233 RX7 yX7_toldOfTunnel wsX7_toldOfTunnel) := goodIn_app (goodIn_of _ (by decide +kernel)) ggX7_digestLawn_X7_toldOfTunnel
set_option maxRecDepth 20000 in
theorem ggX7_digestLawn_X7_cellOf : GoodIn wsX7_digestLawn wsX7_cellOf := goodIn_r _ [83, 72, 73, 74, 5, 75, 76, 77, 78, 79, 46, 47, 48, 49, 1, 13, 14, 15, 16, 84, 85, 86, 87, 88, 89, 90, 91, 92, 93, 94, 95, 96, 97, 98, 99] (by decide +kernel) (by decide +kernel)
set_option maxRecDepth 20000 in
theorem gX7_digestLawn_X7_cellOf : GoodIn wsX7_digestLawn (wsV RX7 236 RX7 yX7_cellOf wsX7_cellOf) := goodIn_app (goodIn_of _ (by decide +kernel)) ggX7_digestLawn_X7_cellOf
theorem dX7_digestLawn_0 : decode cX7_digestLawn 0 = .ok (.iconst 0, 1) := by decide +kernel
theorem dX7_digestLawn_1 : decode cX7_digestLawn 1 = .ok (.istore_n 1, 1) := by decide +kernel
theorem dX7_digestLawn_2 : decode cX7_digestLawn 2 = .ok (.iload_n 1, 1) := by decide +kernel
theorem dX7_digestLawn_3 : decode cX7_digestLawn 3 = .ok (.bipush 64, 2) := by decide +kernel
theorem dX7_digestLawn_5 : decode cX7_digestLawn 5 = .ok (.if_icmp .ge 34, 3) := by decide +kernel
theorem dX7_digestLawn_8 : decode cX7_digestLawn 8 = .ok (.iconst 0, 1) := by decide +kernel
theorem dX7_digestLawn_9 : decode cX7_digestLawn 9 = .ok (.istore_n 2, 1) := by decide +kernel
theorem dX7_digestLawn_10 : decode cX7_digestLawn 10 = .ok (.iload_n 2, 1) := by decide +kernel
theorem dX7_digestLawn_11 : decode cX7_digestLawn 11 = .ok (.bipush 9, 2) := by decide +kernel
theorem dX7_digestLawn_13 : decode cX7_digestLawn 13 = .ok (.if_icmp .ge 20, 3) := by decide +kernel
theorem dX7_digestLawn_16 : decode cX7_digestLawn 16 = .ok (.aload_n 0, 1) := by decide +kernel
theorem dX7_digestLawn_17 : decode cX7_digestLawn 17 = .ok (.aload_n 0, 1) := by decide +kernel
theorem dX7_digestLawn_18 : decode cX7_digestLawn 18 = .ok (.iload_n 1, 1) := by decide +kernel
theorem dX7_digestLawn_19 : decode cX7_digestLawn 19 = .ok (.iload_n 2, 1) := by decide +kernel
theorem dX7_digestLawn_20 : decode cX7_digestLawn 20 = .ok (.invokevirtual 221, 3) := by decide +kernel
theorem dX7_digestLawn_23 : decode cX7_digestLawn 23 = .ok (.i2l, 1) := by decide +kernel
theorem dX7_digestLawn_24 : decode cX7_digestLawn 24 = .ok (.invokevirtual 295, 3) := by decide +kernel
theorem dX7_digestLawn_27 : decode cX7_digestLawn 27 = .ok (.iinc 2 1, 3) := by decide +kernel
theorem dX7_digestLawn_30 : decode cX7_digestLawn 30 = .ok (.goto (-20), 3) := by decide +kernel
theorem dX7_digestLawn_33 : decode cX7_digestLawn 33 = .ok (.iinc 1 1, 3) := by decide +kernel
theorem dX7_digestLawn_36 : decode cX7_digestLawn 36 = .ok (.goto (-34), 3) := by decide +kernel
theorem dX7_digestLawn_39 : decode cX7_digestLawn 39 = .ok (.iconst 0, 1) := by decide +kernel
theorem dX7_digestLawn_40 : decode cX7_digestLawn 40 = .ok (.istore_n 1, 1) := by decide +kernel
theorem dX7_digestLawn_41 : decode cX7_digestLawn 41 = .ok (.iload_n 1, 1) := by decide +kernel
theorem dX7_digestLawn_42 : decode cX7_digestLawn 42 = .ok (.aload_n 0, 1) := by decide +kernel
theorem dX7_digestLawn_43 : decode cX7_digestLawn 43 = .ok (.getfield 7, 3) := by decide +kernel
theorem dX7_digestLawn_46 : decode cX7_digestLawn 46 = .ok (.iconst 1, 1) := by decide +kernel
theorem dX7_digestLawn_47 : decode cX7_digestLawn 47 = .ok (.iaload, 1) := by decide +kernel
theorem dX7_digestLawn_48 : decode cX7_digestLawn 48 = .ok (.if_icmp .ge 34, 3) := by decide +kernel
theorem dX7_digestLawn_51 : decode cX7_digestLawn 51 = .ok (.iconst 0, 1) := by decide +kernel
theorem dX7_digestLawn_52 : decode cX7_digestLawn 52 = .ok (.istore_n 2, 1) := by decide +kernel
theorem dX7_digestLawn_53 : decode cX7_digestLawn 53 = .ok (.iload_n 2, 1) := by decide +kernel
theorem dX7_digestLawn_54 : decode cX7_digestLawn 54 = .ok (.bipush 7, 2) := by decide +kernel
theorem dX7_digestLawn_56 : decode cX7_digestLawn 56 = .ok (.if_icmp .ge 20, 3) := by decide +kernel
theorem dX7_digestLawn_59 : decode cX7_digestLawn 59 = .ok (.aload_n 0, 1) := by decide +kernel
theorem dX7_digestLawn_60 : decode cX7_digestLawn 60 = .ok (.aload_n 0, 1) := by decide +kernel
theorem dX7_digestLawn_61 : decode cX7_digestLawn 61 = .ok (.iload_n 1, 1) := by decide +kernel
theorem dX7_digestLawn_62 : decode cX7_digestLawn 62 = .ok (.iload_n 2, 1) := by decide +kernel
theorem dX7_digestLawn_63 : decode cX7_digestLawn 63 = .ok (.invokevirtual 224, 3) := by decide +kernel
theorem dX7_digestLawn_66 : decode cX7_digestLawn 66 = .ok (.i2l, 1) := by decide +kernel
theorem dX7_digestLawn_67 : decode cX7_digestLawn 67 = .ok (.invokevirtual 295, 3) := by decide +kernel
theorem dX7_digestLawn_70 : decode cX7_digestLawn 70 = .ok (.iinc 2 1, 3) := by decide +kernel
theorem dX7_digestLawn_73 : decode cX7_digestLawn 73 = .ok (.goto (-20), 3) := by decide +kernel
theorem dX7_digestLawn_76 : decode cX7_digestLawn 76 = .ok (.iinc 1 1, 3) := by decide +kernel
theorem dX7_digestLawn_79 : decode cX7_digestLawn 79 = .ok (.goto (-38), 3) := by decide +kernel
theorem dX7_digestLawn_82 : decode cX7_digestLawn 82 = .ok (.iconst 0, 1) := by decide +kernel
theorem dX7_digestLawn_83 : decode cX7_digestLawn 83 = .ok (.istore_n 1, 1) := by decide +kernel
theorem dX7_digestLawn_84 : decode cX7_digestLawn 84 = .ok (.iload_n 1, 1) := by decide +kernel
theorem dX7_digestLawn_85 : decode cX7_digestLawn 85 = .ok (.aload_n 0, 1) := by decide +kernel
theorem dX7_digestLawn_86 : decode cX7_digestLawn 86 = .ok (.invokevirtual 194, 3) := by decide +kernel
theorem dX7_digestLawn_89 : decode cX7_digestLawn 89 = .ok (.if_icmp .ge 62, 3) := by decide +kernel
theorem dX7_digestLawn_92 : decode cX7_digestLawn 92 = .ok (.iconst 0, 1) := by decide +kernel
theorem dX7_digestLawn_93 : decode cX7_digestLawn 93 = .ok (.istore_n 2, 1) := by decide +kernel
theorem dX7_digestLawn_94 : decode cX7_digestLawn 94 = .ok (.iload_n 2, 1) := by decide +kernel
theorem dX7_digestLawn_95 : decode cX7_digestLawn 95 = .ok (.iconst 3, 1) := by decide +kernel
theorem dX7_digestLawn_96 : decode cX7_digestLawn 96 = .ok (.if_icmp .ge 20, 3) := by decide +kernel
theorem dX7_digestLawn_99 : decode cX7_digestLawn 99 = .ok (.aload_n 0, 1) := by decide +kernel
theorem dX7_digestLawn_100 : decode cX7_digestLawn 100 = .ok (.aload_n 0, 1) := by decide +kernel
theorem dX7_digestLawn_101 : decode cX7_digestLawn 101 = .ok (.iload_n 1, 1) := by decide +kernel
theorem dX7_digestLawn_102 : decode cX7_digestLawn 102 = .ok (.iload_n 2, 1) := by decide +kernel
theorem dX7_digestLawn_103 : decode cX7_digestLawn 103 = .ok (.invokevirtual 233, 3) := by decide +kernel
theorem dX7_digestLawn_106 : decode cX7_digestLawn 106 = .ok (.i2l, 1) := by decide +kernel
theorem dX7_digestLawn_107 : decode cX7_digestLawn 107 = .ok (.invokevirtual 295, 3) := by decide +kernel
theorem dX7_digestLawn_110 : decode cX7_digestLawn 110 = .ok (.iinc 2 1, 3) := by decide +kernel
theorem dX7_digestLawn_113 : decode cX7_digestLawn 113 = .ok (.goto (-19), 3) := by decide +kernel
theorem dX7_digestLawn_116 : decode cX7_digestLawn 116 = .ok (.iconst 0, 1) := by decide +kernel
theorem dX7_digestLawn_117 : decode cX7_digestLawn 117 = .ok (.istore_n 2, 1) := by decide +kernel
theorem dX7_digestLawn_118 : decode cX7_digestLawn 118 = .ok (.iload_n 2, 1) := by decide +kernel
theorem dX7_digestLawn_119 : decode cX7_digestLawn 119 = .ok (.aload_n 0, 1) := by decide +kernel
theorem dX7_digestLawn_120 : decode cX7_digestLawn 120 = .ok (.iload_n 1, 1) := by decide +kernel
theorem dX7_digestLawn_121 : decode cX7_digestLawn 121 = .ok (.iconst 2, 1) := by decide +kernel
theorem dX7_digestLawn_122 : decode cX7_digestLawn 122 = .ok (.invokevirtual 233, 3) := by decide +kernel
theorem dX7_digestLawn_125 : decode cX7_digestLawn 125 = .ok (.if_icmp .ge 20, 3) := by decide +kernel
theorem dX7_digestLawn_128 : decode cX7_digestLawn 128 = .ok (.aload_n 0, 1) := by decide +kernel
theorem dX7_digestLawn_129 : decode cX7_digestLawn 129 = .ok (.aload_n 0, 1) := by decide +kernel
theorem dX7_digestLawn_130 : decode cX7_digestLawn 130 = .ok (.iload_n 1, 1) := by decide +kernel
theorem dX7_digestLawn_131 : decode cX7_digestLawn 131 = .ok (.iload_n 2, 1) := by decide +kernel
theorem dX7_digestLawn_132 : decode cX7_digestLawn 132 = .ok (.invokevirtual 236, 3) := by decide +kernel
theorem dX7_digestLawn_135 : decode cX7_digestLawn 135 = .ok (.i2l, 1) := by decide +kernel
theorem dX7_digestLawn_136 : decode cX7_digestLawn 136 = .ok (.invokevirtual 295, 3) := by decide +kernel
theorem dX7_digestLawn_139 : decode cX7_digestLawn 139 = .ok (.iinc 2 1, 3) := by decide +kernel
theorem dX7_digestLawn_142 : decode cX7_digestLawn 142 = .ok (.goto (-24), 3) := by decide +kernel
theorem dX7_digestLawn_145 : decode cX7_digestLawn 145 = .ok (.iinc 1 1, 3) := by decide +kernel
theorem dX7_digestLawn_148 : decode cX7_digestLawn 148 = .ok (.goto (-64), 3) := by decide +kernel
theorem dX7_digestLawn_151 : decode cX7_digestLawn 151 = .ok (.return_, 1) := by decide +kernel
set_option maxRecDepth 20000 in
theorem ggX7_digestMounds_X7_hasMound : GoodIn wsX7_digestMounds wsX7_hasMound := goodIn_r _ [5, 6, 95, 96, 97, 98, 99, 100, 101, 102, 103, 104, 105, 106, 107, 108, 109, 110] (by decide +kernel) (by decide +kernel)
set_option maxRecDepth 20000 in
theorem gX7_digestMounds_X7_hasMound : GoodIn wsX7_digestMounds (wsV RX7 92 RX7 yX7_hasMound wsX7_hasMound) := goodIn_app (goodIn_of _ (by decide +kernel)) ggX7_digestMounds_X7_hasMound
set_option maxRecDepth 20000 in
theorem ggX7_digestMounds_X7_fewestTo : GoodIn wsX7_digestMounds wsX7_fewestTo := goodIn_r _ [10, 11, 12, 13, 14, 4, 15, 6, 1, 2, 3, 5, 16, 17, 18, 19, 20, 21, 22, 23, 95, 96, 97, 98, 99, 100, 101, 102, 103, 104, 105, 106, 107, 108, 109, 110] (by decide +kernel) (by decide +kernel)
set_option maxRecDepth 20000 in
theorem gX7_digestMounds_X7_fewestTo : GoodIn wsX7_digestMounds (wsV RX7 254 RX7 yX7_fewestTo wsX7_fewestTo) := goodIn_app (goodIn_of _ (by decide +kernel)) ggX7_digestMounds_X7_fewestTo
set_option maxRecDepth 20000 in
theorem ggX7_digestMounds_X7_digestOne : GoodIn wsX7_digestMounds wsX7_digestOne := goodIn_r _ [27, 28, 29, 95, 96, 97, 98, 99, 100, 101, 102, 103, 104, 105, 106, 107, 108, 109, 110] (by decide +kernel) (by decide +kernel)
set_option maxRecDepth 20000 in
theorem gX7_digestMounds_X7_digestOne : GoodIn wsX7_digestMounds (wsV RX7 295 RX7 yX7_digestOne wsX7_digestOne) := goodIn_app (goodIn_of _ (by decide +kernel)) ggX7_digestMounds_X7_digestOne
set_option maxRecDepth 20000 in
theorem ggX7_digestMounds_X7_whenDug : GoodIn wsX7_digestMounds wsX7_whenDug := goodIn_r _ [33, 6, 34, 35, 36, 4, 37, 38, 39, 40, 41, 42, 43, 44, 45, 46, 47, 48, 49, 50, 51, 52, 53, 20, 21, 22, 23, 54, 55, 56, 57, 16, 17, 18, 19, 58, 59, 60, 61, 62, 63, 64, 65, 1, 2, 3, 5, 66, 67, 68, 69, 70, 71, 72, 73, 74, 75, 76, 77, 78, 79, 80, 81, 82, 83, 84, 85, 86, 87, 88, 89, 90, 91, 92, 93, 94, 95, 96, 97, 98, 99, 100, 101, 102, 103, 104, 105, 106, 107, 108, 109, 110] (by decide +kernel) (by decide +kernel)
set_option maxRecDepth 20000 in
theorem gX7_digestMounds_X7_whenDug : GoodIn wsX7_digestMounds (wsV RX7 263 RX7 yX7_whenDug wsX7_whenDug) := goodIn_app (goodIn_of _ (by decide +kernel)) ggX7_digestMounds_X7_whenDug
theorem dX7_digestMounds_0 : decode cX7_digestMounds 0 = .ok (.iconst (-1), 1) := by decide +kernel
theorem dX7_digestMounds_1 : decode cX7_digestMounds 1 = .ok (.istore_n 1, 1) := by decide +kernel
theorem dX7_digestMounds_2 : decode cX7_digestMounds 2 = .ok (.iconst 0, 1) := by decide +kernel
theorem dX7_digestMounds_3 : decode cX7_digestMounds 3 = .ok (.istore_n 2, 1) := by decide +kernel
theorem dX7_digestMounds_4 : decode cX7_digestMounds 4 = .ok (.iload_n 2, 1) := by decide +kernel
theorem dX7_digestMounds_5 : decode cX7_digestMounds 5 = .ok (.bipush 64, 2) := by decide +kernel
theorem dX7_digestMounds_7 : decode cX7_digestMounds 7 = .ok (.if_icmp .ge 47, 3) := by decide +kernel
theorem dX7_digestMounds_10 : decode cX7_digestMounds 10 = .ok (.iload_n 1, 1) := by decide +kernel
theorem dX7_digestMounds_11 : decode cX7_digestMounds 11 = .ok (.iconst (-1), 1) := by decide +kernel
theorem dX7_digestMounds_12 : decode cX7_digestMounds 12 = .ok (.if_icmp .ne 15, 3) := by decide +kernel
theorem dX7_digestMounds_15 : decode cX7_digestMounds 15 = .ok (.aload_n 0, 1) := by decide +kernel
theorem dX7_digestMounds_16 : decode cX7_digestMounds 16 = .ok (.iload_n 2, 1) := by decide +kernel
theorem dX7_digestMounds_17 : decode cX7_digestMounds 17 = .ok (.invokevirtual 92, 3) := by decide +kernel
theorem dX7_digestMounds_20 : decode cX7_digestMounds 20 = .ok (.ifCond .eq 7, 3) := by decide +kernel
theorem dX7_digestMounds_23 : decode cX7_digestMounds 23 = .ok (.iload_n 2, 1) := by decide +kernel
theorem dX7_digestMounds_24 : decode cX7_digestMounds 24 = .ok (.goto 4, 3) := by decide +kernel
theorem dX7_digestMounds_27 : decode cX7_digestMounds 27 = .ok (.iload_n 1, 1) := by decide +kernel
theorem dX7_digestMounds_28 : decode cX7_digestMounds 28 = .ok (.istore_n 1, 1) := by decide +kernel
theorem dX7_digestMounds_29 : decode cX7_digestMounds 29 = .ok (.aload_n 0, 1) := by decide +kernel
theorem dX7_digestMounds_30 : decode cX7_digestMounds 30 = .ok (.iload_n 2, 1) := by decide +kernel
theorem dX7_digestMounds_31 : decode cX7_digestMounds 31 = .ok (.invokevirtual 92, 3) := by decide +kernel
theorem dX7_digestMounds_34 : decode cX7_digestMounds 34 = .ok (.ifCond .eq 14, 3) := by decide +kernel
theorem dX7_digestMounds_37 : decode cX7_digestMounds 37 = .ok (.aload_n 0, 1) := by decide +kernel
theorem dX7_digestMounds_38 : decode cX7_digestMounds 38 = .ok (.aload_n 0, 1) := by decide +kernel
theorem dX7_digestMounds_39 : decode cX7_digestMounds 39 = .ok (.iload_n 2, 1) := by decide +kernel
theorem dX7_digestMounds_40 : decode cX7_digestMounds 40 = .ok (.iload_n 1, 1) := by decide +kernel
theorem dX7_digestMounds_41 : decode cX7_digestMounds 41 = .ok (.invokevirtual 254, 3) := by decide +kernel
theorem dX7_digestMounds_44 : decode cX7_digestMounds 44 = .ok (.i2l, 1) := by decide +kernel
theorem dX7_digestMounds_45 : decode cX7_digestMounds 45 = .ok (.invokevirtual 295, 3) := by decide +kernel
theorem dX7_digestMounds_48 : decode cX7_digestMounds 48 = .ok (.iinc 2 1, 3) := by decide +kernel
theorem dX7_digestMounds_51 : decode cX7_digestMounds 51 = .ok (.goto (-47), 3) := by decide +kernel
theorem dX7_digestMounds_54 : decode cX7_digestMounds 54 = .ok (.iconst 0, 1) := by decide +kernel
theorem dX7_digestMounds_55 : decode cX7_digestMounds 55 = .ok (.istore_n 2, 1) := by decide +kernel
theorem dX7_digestMounds_56 : decode cX7_digestMounds 56 = .ok (.iload_n 2, 1) := by decide +kernel
theorem dX7_digestMounds_57 : decode cX7_digestMounds 57 = .ok (.bipush 64, 2) := by decide +kernel
theorem dX7_digestMounds_59 : decode cX7_digestMounds 59 = .ok (.if_icmp .ge 20, 3) := by decide +kernel
theorem dX7_digestMounds_62 : decode cX7_digestMounds 62 = .ok (.aload_n 0, 1) := by decide +kernel
theorem dX7_digestMounds_63 : decode cX7_digestMounds 63 = .ok (.aload_n 0, 1) := by decide +kernel
theorem dX7_digestMounds_64 : decode cX7_digestMounds 64 = .ok (.iload_n 2, 1) := by decide +kernel
theorem dX7_digestMounds_65 : decode cX7_digestMounds 65 = .ok (.iconst 0, 1) := by decide +kernel
theorem dX7_digestMounds_66 : decode cX7_digestMounds 66 = .ok (.invokevirtual 263, 3) := by decide +kernel
theorem dX7_digestMounds_69 : decode cX7_digestMounds 69 = .ok (.i2l, 1) := by decide +kernel
theorem dX7_digestMounds_70 : decode cX7_digestMounds 70 = .ok (.invokevirtual 295, 3) := by decide +kernel
theorem dX7_digestMounds_73 : decode cX7_digestMounds 73 = .ok (.iinc 2 1, 3) := by decide +kernel
theorem dX7_digestMounds_76 : decode cX7_digestMounds 76 = .ok (.goto (-20), 3) := by decide +kernel
theorem dX7_digestMounds_79 : decode cX7_digestMounds 79 = .ok (.return_, 1) := by decide +kernel
set_option maxRecDepth 20000 in
theorem ggX7_digest_X7_counted : GoodIn wsX7_digest wsX7_counted := goodIn_r _ [10, 11, 12, 13, 14, 15, 9, 16, 17, 18, 19, 20, 21, 22, 23, 24, 25, 26, 27, 28, 29, 30, 31, 32, 33, 34, 35, 36, 37, 38, 39, 40, 41, 42, 43, 44, 45, 46, 47, 48, 49, 50, 51, 52, 53, 54, 55, 56, 57, 237, 238, 239, 240, 241, 242, 243, 244, 245, 246, 247, 248, 249, 250, 251, 252] (by decide +kernel) (by decide +kernel)
set_option maxRecDepth 20000 in
theorem gX7_digest_X7_counted : GoodIn wsX7_digest (wsV RX7 251 RX7 yX7_counted wsX7_counted) := goodIn_app (goodIn_of _ (by decide +kernel)) ggX7_digest_X7_counted
set_option maxRecDepth 20000 in
theorem ggX7_digest_X7_digestOne : GoodIn wsX7_digest wsX7_digestOne := goodIn_r _ [61, 62, 3, 237, 238, 239, 240, 241, 242, 243, 244, 245, 246, 247, 248, 249, 250, 251, 252] (by decide +kernel) (by decide +kernel)
set_option maxRecDepth 20000 in
theorem gX7_digest_X7_digestOne : GoodIn wsX7_digest (wsV RX7 295 RX7 yX7_digestOne wsX7_digestOne) := goodIn_app (goodIn_of _ (by decide +kernel)) ggX7_digest_X7_digestOne
set_option maxRecDepth 20000 in
theorem ggX7_digest_X7_digestLawn : GoodIn wsX7_digest wsX7_digestLawn := goodIn_r _ [66, 11, 67, 68, 69, 9, 70, 25, 71, 26, 27, 28, 29, 30, 31, 32, 33, 34, 35, 36, 72, 73, 74, 75, 76, 77, 78, 79, 80, 81, 82, 83, 84, 85, 86, 87, 88, 89, 90, 91, 92, 93, 94, 95, 96, 97, 54, 55, 56, 57, 98, 99, 100, 101, 102, 103, 104, 105, 58, 59, 60, 61, 62, 3, 106, 107, 108, 109, 17, 18, 19, 20, 110, 111, 112, 113, 114, 115, 116, 117, 118, 119, 120, 121, 237, 238, 239, 240, 241, 242, 243, 244, 245, 246, 247, 248, 249, 250, 251, 252] (by decide +kernel) (by decide +kernel)
set_option maxRecDepth 20000 in
theorem gX7_digest_X7_digestLawn : GoodIn wsX7_digest (wsV RX7 301 RX7 yX7_digestLawn wsX7_digestLawn) := goodIn_app (goodIn_of _ (by decide +kernel)) ggX7_digest_X7_digestLawn
set_option maxRecDepth 20000 in
theorem ggX7_digest_X7_digestMounds : GoodIn wsX7_digest wsX7_digestMounds := goodIn_r _ [125, 50, 51, 52, 9, 53, 11, 126, 127, 128, 129, 45, 46, 47, 48, 49, 30, 31, 32, 33, 54, 55, 56, 57, 58, 59, 60, 61, 62, 3, 130, 131, 132, 133, 134, 135, 136, 137, 138, 139, 140, 141, 142, 34, 35, 36, 143, 144, 145, 146, 147, 148, 149, 150, 98, 99, 100, 101, 151, 152, 153, 154, 155, 156, 157, 158, 159, 160, 161, 162, 163, 164, 165, 166, 167, 168, 169, 170, 171, 172, 173, 174, 21, 22, 23, 24, 25, 26, 27, 28, 29, 175, 176, 177, 178, 237, 238, 239, 240, 241, 242, 243, 244, 245, 246, 247, 248, 249, 250, 251, 252] (by decide +kernel) (by decide +kernel)
set_option maxRecDepth 20000 in
theorem gX7_digest_X7_digestMounds : GoodIn wsX7_digest (wsV RX7 304 RX7 yX7_digestMounds wsX7_digestMounds) := goodIn_app (goodIn_of _ (by decide +kernel)) ggX7_digest_X7_digestMounds
set_option maxRecDepth 20000 in
theorem ggX7_digest_X7_best : GoodIn wsX7_digest wsX7_best := goodIn_r _ [182, 11, 94, 95, 96, 9, 97, 54, 55, 56, 57, 98, 99, 100, 101, 30, 31, 32, 33, 237, 238, 239, 240, 241, 242, 243, 244, 245, 246, 247, 248, 249, 250, 251, 252] (by decide +kernel) (by decide +kernel)
set_option maxRecDepth 20000 in
theorem gX7_digest_X7_best : GoodIn wsX7_digest (wsV RX7 266 RX7 yX7_best wsX7_best) := goodIn_app (goodIn_of _ (by decide +kernel)) ggX7_digest_X7_best
set_option maxRecDepth 20000 in
theorem ggX7_digest_X7_passed : GoodIn wsX7_digest wsX7_passed := goodIn_r _ [186, 11, 134, 135, 136, 9, 137, 138, 187, 188, 189, 190, 191, 192, 193, 194, 195, 196, 197, 198, 34, 35, 36, 199, 200, 201, 202, 203, 204, 79, 80, 81, 205, 206, 207, 208, 209, 210, 211, 212, 213, 214, 215, 216, 143, 144, 145, 146, 50, 51, 52, 53, 217, 218, 219, 220, 155, 156, 157, 158, 167, 168, 169, 170, 171, 172, 173, 174, 159, 160, 161, 162, 163, 164, 165, 166, 54, 55, 56, 57, 98, 99, 100, 101, 30, 31, 32, 33, 151, 152, 153, 154, 17, 18, 19, 20, 175, 176, 177, 178, 237, 238, 239, 240, 241, 242, 243, 244, 245, 246, 247, 248, 249, 250, 251, 252] (by decide +kernel) (by decide +kernel)
set_option maxRecDepth 20000 in
theorem gX7_digest_X7_passed : GoodIn wsX7_digest (wsV RX7 269 RX7 yX7_passed wsX7_passed) := goodIn_app (goodIn_of _ (by decide +kernel)) ggX7_digest_X7_passed
set_option maxRecDepth 20000 in
theorem ggX7_digest_X7_whenMound : GoodIn wsX7_digest wsX7_whenMound := goodIn_r _ [224, 134, 135, 136, 9, 137, 138, 11, 187, 188, 189, 190, 191, 192, 193, 194, 195, 196, 197, 198, 34, 35, 36, 199, 200, 201, 202, 203, 204, 79, 80, 81, 205, 206, 207, 208, 209, 210, 211, 212, 213, 214, 215, 216, 143, 144, 145, 146, 50, 51, 52, 53, 217, 218, 219, 220, 155, 156, 157, 158, 167, 168, 169, 170, 171, 172, 173, 174, 159, 160, 161, 162, 163, 164, 165, 166, 54, 55, 56, 57, 98, 99, 100, 101, 30, 31, 32, 33, 151, 152, 153, 154, 175, 176, 177, 178, 237, 238, 239, 240, 241, 242, 243, 244, 245, 246, 247, 248, 249, 250, 251, 252] (by decide +kernel) (by decide +kernel)
set_option maxRecDepth 20000 in
theorem gX7_digest_X7_whenMound : GoodIn wsX7_digest (wsV RX7 272 RX7 yX7_whenMound wsX7_whenMound) := goodIn_app (goodIn_of _ (by decide +kernel)) ggX7_digest_X7_whenMound
set_option maxRecDepth 20000 in
theorem ggX7_digest_X7_share : GoodIn wsX7_digest wsX7_share := goodIn_r _ [228, 229, 21, 22, 23, 9, 24, 25, 26, 27, 28, 29, 11, 30, 31, 32, 33, 34, 35, 36, 237, 238, 239, 240, 241, 242, 243, 244, 245, 246, 247, 248, 249, 250, 251, 252] (by decide +kernel) (by decide +kernel)
set_option maxRecDepth 20000 in
theorem gX7_digest_X7_share : GoodIn wsX7_digest (wsV RX7 277 RX7 yX7_share wsX7_share) := goodIn_app (goodIn_of _ (by decide +kernel)) ggX7_digest_X7_share
set_option maxRecDepth 20000 in
theorem ggX7_digest_X7_bitsOf : GoodIn wsX7_digest wsX7_bitsOf := goodIn_r _ [232, 233, 234, 235, 236] (by decide +kernel) (by decide +kernel)
set_option maxRecDepth 20000 in
theorem gX7_digest_X7_bitsOf : GoodIn wsX7_digest (va_wsS RX7 307 yX7_bitsOf wsX7_bitsOf) := goodIn_app (goodIn_of _ (by decide +kernel)) ggX7_digest_X7_bitsOf
theorem dX7_digest_0 : decode cX7_digest 0 = .ok (.aload_n 0, 1) := by decide +kernel
theorem dX7_digest_1 : decode cX7_digest 1 = .ok (.iconst 0, 1) := by decide +kernel
theorem dX7_digest_2 : decode cX7_digest 2 = .ok (.putfield 38, 3) := by decide +kernel
theorem dX7_digest_5 : decode cX7_digest 5 = .ok (.aload_n 0, 1) := by decide +kernel
theorem dX7_digest_6 : decode cX7_digest 6 = .ok (.ldc2_w 299, 3) := by decide +kernel
theorem dX7_digest_9 : decode cX7_digest 9 = .ok (.putfield 291, 3) := by decide +kernel
theorem dX7_digest_12 : decode cX7_digest 12 = .ok (.iconst 0, 1) := by decide +kernel
theorem dX7_digest_13 : decode cX7_digest 13 = .ok (.istore_n 1, 1) := by decide +kernel
theorem dX7_digest_14 : decode cX7_digest 14 = .ok (.iload_n 1, 1) := by decide +kernel
theorem dX7_digest_15 : decode cX7_digest 15 = .ok (.bipush 15, 2) := by decide +kernel
theorem dX7_digest_17 : decode cX7_digest 17 = .ok (.if_icmp .ge 19, 3) := by decide +kernel
theorem dX7_digest_20 : decode cX7_digest 20 = .ok (.aload_n 0, 1) := by decide +kernel
theorem dX7_digest_21 : decode cX7_digest 21 = .ok (.aload_n 0, 1) := by decide +kernel
theorem dX7_digest_22 : decode cX7_digest 22 = .ok (.iload_n 1, 1) := by decide +kernel
theorem dX7_digest_23 : decode cX7_digest 23 = .ok (.invokevirtual 251, 3) := by decide +kernel
theorem dX7_digest_26 : decode cX7_digest 26 = .ok (.i2l, 1) := by decide +kernel
theorem dX7_digest_27 : decode cX7_digest 27 = .ok (.invokevirtual 295, 3) := by decide +kernel
theorem dX7_digest_30 : decode cX7_digest 30 = .ok (.iinc 1 1, 3) := by decide +kernel
theorem dX7_digest_33 : decode cX7_digest 33 = .ok (.goto (-19), 3) := by decide +kernel
theorem dX7_digest_36 : decode cX7_digest 36 = .ok (.aload_n 0, 1) := by decide +kernel
theorem dX7_digest_37 : decode cX7_digest 37 = .ok (.invokevirtual 301, 3) := by decide +kernel
theorem dX7_digest_40 : decode cX7_digest 40 = .ok (.aload_n 0, 1) := by decide +kernel
theorem dX7_digest_41 : decode cX7_digest 41 = .ok (.invokevirtual 304, 3) := by decide +kernel
theorem dX7_digest_44 : decode cX7_digest 44 = .ok (.aload_n 0, 1) := by decide +kernel
theorem dX7_digest_45 : decode cX7_digest 45 = .ok (.aload_n 0, 1) := by decide +kernel
theorem dX7_digest_46 : decode cX7_digest 46 = .ok (.invokevirtual 266, 3) := by decide +kernel
theorem dX7_digest_49 : decode cX7_digest 49 = .ok (.i2l, 1) := by decide +kernel
theorem dX7_digest_50 : decode cX7_digest 50 = .ok (.invokevirtual 295, 3) := by decide +kernel
theorem dX7_digest_53 : decode cX7_digest 53 = .ok (.iconst 0, 1) := by decide +kernel
theorem dX7_digest_54 : decode cX7_digest 54 = .ok (.istore_n 1, 1) := by decide +kernel
theorem dX7_digest_55 : decode cX7_digest 55 = .ok (.iload_n 1, 1) := by decide +kernel
theorem dX7_digest_56 : decode cX7_digest 56 = .ok (.iconst 3, 1) := by decide +kernel
theorem dX7_digest_57 : decode cX7_digest 57 = .ok (.if_icmp .ge 20, 3) := by decide +kernel
theorem dX7_digest_60 : decode cX7_digest 60 = .ok (.aload_n 0, 1) := by decide +kernel
theorem dX7_digest_61 : decode cX7_digest 61 = .ok (.aload_n 0, 1) := by decide +kernel
theorem dX7_digest_62 : decode cX7_digest 62 = .ok (.iconst 5, 1) := by decide +kernel
theorem dX7_digest_63 : decode cX7_digest 63 = .ok (.iload_n 1, 1) := by decide +kernel
theorem dX7_digest_64 : decode cX7_digest 64 = .ok (.invokevirtual 269, 3) := by decide +kernel
theorem dX7_digest_67 : decode cX7_digest 67 = .ok (.i2l, 1) := by decide +kernel
theorem dX7_digest_68 : decode cX7_digest 68 = .ok (.invokevirtual 295, 3) := by decide +kernel
theorem dX7_digest_71 : decode cX7_digest 71 = .ok (.iinc 1 1, 3) := by decide +kernel
theorem dX7_digest_74 : decode cX7_digest 74 = .ok (.goto (-19), 3) := by decide +kernel
theorem dX7_digest_77 : decode cX7_digest 77 = .ok (.aload_n 0, 1) := by decide +kernel
theorem dX7_digest_78 : decode cX7_digest 78 = .ok (.aload_n 0, 1) := by decide +kernel
theorem dX7_digest_79 : decode cX7_digest 79 = .ok (.invokevirtual 272, 3) := by decide +kernel
theorem dX7_digest_82 : decode cX7_digest 82 = .ok (.i2l, 1) := by decide +kernel
theorem dX7_digest_83 : decode cX7_digest 83 = .ok (.invokevirtual 295, 3) := by decide +kernel
theorem dX7_digest_86 : decode cX7_digest 86 = .ok (.aload_n 0, 1) := by decide +kernel
theorem dX7_digest_87 : decode cX7_digest 87 = .ok (.aload_n 0, 1) := by decide +kernel
theorem dX7_digest_88 : decode cX7_digest 88 = .ok (.invokevirtual 277, 3) := by decide +kernel
theorem dX7_digest_91 : decode cX7_digest 91 = .ok (.invokestatic 307, 3) := by decide +kernel
theorem dX7_digest_94 : decode cX7_digest 94 = .ok (.invokevirtual 295, 3) := by decide +kernel
theorem dX7_digest_97 : decode cX7_digest 97 = .ok (.aload_n 0, 1) := by decide +kernel
theorem dX7_digest_98 : decode cX7_digest 98 = .ok (.aload_n 0, 1) := by decide +kernel
theorem dX7_digest_99 : decode cX7_digest 99 = .ok (.getfield 167, 3) := by decide +kernel
theorem dX7_digest_102 : decode cX7_digest 102 = .ok (.i2l, 1) := by decide +kernel
theorem dX7_digest_103 : decode cX7_digest 103 = .ok (.invokevirtual 295, 3) := by decide +kernel
theorem dX7_digest_106 : decode cX7_digest 106 = .ok (.iconst 0, 1) := by decide +kernel
theorem dX7_digest_107 : decode cX7_digest 107 = .ok (.istore_n 1, 1) := by decide +kernel
theorem dX7_digest_108 : decode cX7_digest 108 = .ok (.iload_n 1, 1) := by decide +kernel
theorem dX7_digest_109 : decode cX7_digest 109 = .ok (.aload_n 0, 1) := by decide +kernel
theorem dX7_digest_110 : decode cX7_digest 110 = .ok (.getfield 167, 3) := by decide +kernel
theorem dX7_digest_113 : decode cX7_digest 113 = .ok (.if_icmp .ge 20, 3) := by decide +kernel
theorem dX7_digest_116 : decode cX7_digest 116 = .ok (.aload_n 0, 1) := by decide +kernel
theorem dX7_digest_117 : decode cX7_digest 117 = .ok (.aload_n 0, 1) := by decide +kernel
theorem dX7_digest_118 : decode cX7_digest 118 = .ok (.getfield 22, 3) := by decide +kernel
theorem dX7_digest_121 : decode cX7_digest 121 = .ok (.iload_n 1, 1) := by decide +kernel
theorem dX7_digest_122 : decode cX7_digest 122 = .ok (.iaload, 1) := by decide +kernel
theorem dX7_digest_123 : decode cX7_digest 123 = .ok (.i2l, 1) := by decide +kernel
theorem dX7_digest_124 : decode cX7_digest 124 = .ok (.invokevirtual 295, 3) := by decide +kernel
theorem dX7_digest_127 : decode cX7_digest 127 = .ok (.iinc 1 1, 3) := by decide +kernel
theorem dX7_digest_130 : decode cX7_digest 130 = .ok (.goto (-22), 3) := by decide +kernel
theorem dX7_digest_133 : decode cX7_digest 133 = .ok (.aload_n 0, 1) := by decide +kernel
theorem dX7_digest_134 : decode cX7_digest 134 = .ok (.getfield 291, 3) := by decide +kernel
theorem dX7_digest_137 : decode cX7_digest 137 = .ok (.lreturn, 1) := by decide +kernel
theorem dJ9_min_7cf53_0 : decode cJ9_min_7cf53 0 = .ok (.iload_n 0, 1) := by decide +kernel
theorem dJ9_min_7cf53_1 : decode cJ9_min_7cf53 1 = .ok (.iload_n 1, 1) := by decide +kernel
theorem dJ9_min_7cf53_2 : decode cJ9_min_7cf53 2 = .ok (.if_icmp .gt 7, 3) := by decide +kernel
theorem dJ9_min_7cf53_5 : decode cJ9_min_7cf53 5 = .ok (.iload_n 0, 1) := by decide +kernel
theorem dJ9_min_7cf53_6 : decode cJ9_min_7cf53 6 = .ok (.goto 4, 3) := by decide +kernel
theorem dJ9_min_7cf53_9 : decode cJ9_min_7cf53 9 = .ok (.iload_n 1, 1) := by decide +kernel
theorem dJ9_min_7cf53_10 : decode cJ9_min_7cf53 10 = .ok (.ireturn, 1) := by decide +kernel
