set_option maxRecDepth 20000 in
theorem ggL_mole_X6_mole : GoodIn wsL_mole wsX6_mole := goodIn_ca (goodIn_ca (goodIn_r _ [7, 8, 9, 10, 11, 12, 13, 14, 15, 6, 16, 17, 18, 19, 20, 21, 22, 23, 24, 25, 26, 27, 28, 29, 30, 31, 32, 33, 34, 35, 36, 37, 38, 39, 40, 41, 42, 43, 44, 45, 46, 47, 48, 49, 50, 51, 52, 53, 54, 55, 56, 57, 58, 59, 60, 61, 62, 63, 64, 65, 66, 67, 68, 69, 70, 71, 72, 73, 74, 75, 76, 77, 78, 79, 80, 81, 82, 83, 84, 85, 86, 87, 88, 89, 90, 91, 92, 93, 94, 95, 96, 97, 98, 99, 100, 101, 102, 103, 104, 105, 106, 107, 108, 109, 110, 111, 112, 113, 114, 115, 116, 117, 118, 119, 120, 121, 122, 123, 124, 125, 126, 127, 128, 129, 130, 131, 132, 133, 134, 135, 136, 137, 138, 139, 140, 141, 142, 143, 144, 145, 146, 147, 148, 149, 150, 151, 152, 153, 154, 155, 156, 157, 158, 159] (by decide +kernel) (by decide +kernel)) (goodIn_sub (fun _ h => List.mem_cons_of_mem _ (List.mem_append_left _ (List.mem_append_right _ h))) (by decide +kernel))) (goodIn_sub (fun _ h => List.mem_cons_of_mem _ (List.mem_append_right _ h)) (by decide +kernel))
set_option maxRecDepth 20000 in
theorem gL_mole_X6_mole : GoodIn wsL_mole (wsV RL 7 RX6 yX6_mole wsX6_mole) := goodIn_app (goodIn_of _ (by decide +kernel)) ggL_mole_X6_mole
theorem dL_mole_0 : decode cL_mole 0 = .ok (.aload_n 2, 1) := by decide +kernel
theorem dL_mole_1 : decode cL_mole 1 = .ok (.iconst 0, 1) := by decide +kernel
theorem dL_mole_2 : decode cL_mole 2 = .ok (.aload_n 0, 1) := by decide +kernel
theorem dL_mole_3 : decode cL_mole 3 = .ok (.iload_n 1, 1) := by decide +kernel
theorem dL_mole_4 : decode cL_mole 4 = .ok (.invokevirtual 7, 3) := by decide +kernel
theorem dL_mole_7 : decode cL_mole 7 = .ok (.i2l, 1) := by decide +kernel
theorem dL_mole_8 : decode cL_mole 8 = .ok (.lastore, 1) := by decide +kernel
theorem dL_mole_9 : decode cL_mole 9 = .ok (.goto 9, 3) := by decide +kernel
theorem dL_mole_12 : decode cL_mole 12 = .ok (.astore_n 3, 1) := by decide +kernel
theorem dL_mole_13 : decode cL_mole 13 = .ok (.iconst 1, 1) := by decide +kernel
theorem dL_mole_14 : decode cL_mole 14 = .ok (.ireturn, 1) := by decide +kernel
theorem dL_mole_15 : decode cL_mole 15 = .ok (.astore_n 3, 1) := by decide +kernel
theorem dL_mole_16 : decode cL_mole 16 = .ok (.iconst 2, 1) := by decide +kernel
theorem dL_mole_17 : decode cL_mole 17 = .ok (.ireturn, 1) := by decide +kernel
theorem dL_mole_18 : decode cL_mole 18 = .ok (.iconst 0, 1) := by decide +kernel
theorem dL_mole_19 : decode cL_mole 19 = .ok (.ireturn, 1) := by decide +kernel
set_option maxRecDepth 20000 in
theorem ggL_plan_X6_plan : GoodIn wsL_plan wsX6_plan := goodIn_ca (goodIn_ca (goodIn_ca (goodIn_r _ [8, 9, 10, 11, 12, 13, 14, 15, 16, 17, 18, 7, 19, 20, 21, 22, 23, 24, 25, 26, 27, 28, 29, 30, 31, 32, 33, 34, 35, 36, 37, 38, 39, 40, 41, 42, 43, 44, 45, 46, 47, 48, 49, 50, 51, 52, 53, 54, 55, 56, 57, 58, 59, 60, 61, 62, 63, 64, 65, 66, 67, 68, 69, 70, 71, 72, 73, 74, 75, 76, 77, 78, 79, 80, 81, 82, 83, 84, 85, 86, 87, 88, 89, 90, 91, 92, 93, 94, 95, 96, 97, 98, 99, 100, 101, 102, 103, 104, 105, 106, 107, 108, 109, 110] (by decide +kernel) (by decide +kernel)) (goodIn_sub (fun _ h => List.mem_cons_of_mem _ (List.mem_append_left _ (List.mem_append_left _ (List.mem_append_right _ h)))) (by decide +kernel))) (goodIn_sub (fun _ h => List.mem_cons_of_mem _ (List.mem_append_left _ (List.mem_append_right _ h))) (by decide +kernel))) (goodIn_sub (fun _ h => List.mem_cons_of_mem _ (List.mem_append_right _ h)) (by decide +kernel))
set_option maxRecDepth 20000 in
theorem gL_plan_X6_plan : GoodIn wsL_plan (wsV RL 17 RX6 yX6_plan wsX6_plan) := goodIn_app (goodIn_of _ (by decide +kernel)) ggL_plan_X6_plan
theorem dL_plan_0 : decode cL_plan 0 = .ok (.aload_n 3, 1) := by decide +kernel
theorem dL_plan_1 : decode cL_plan 1 = .ok (.iconst 0, 1) := by decide +kernel
theorem dL_plan_2 : decode cL_plan 2 = .ok (.aload_n 0, 1) := by decide +kernel
theorem dL_plan_3 : decode cL_plan 3 = .ok (.iload_n 1, 1) := by decide +kernel
theorem dL_plan_4 : decode cL_plan 4 = .ok (.iload_n 2, 1) := by decide +kernel
theorem dL_plan_5 : decode cL_plan 5 = .ok (.invokevirtual 17, 3) := by decide +kernel
theorem dL_plan_8 : decode cL_plan 8 = .ok (.i2l, 1) := by decide +kernel
theorem dL_plan_9 : decode cL_plan 9 = .ok (.lastore, 1) := by decide +kernel
theorem dL_plan_10 : decode cL_plan 10 = .ok (.goto 15, 3) := by decide +kernel
theorem dL_plan_13 : decode cL_plan 13 = .ok (.astore 4, 2) := by decide +kernel
theorem dL_plan_15 : decode cL_plan 15 = .ok (.iconst 1, 1) := by decide +kernel
theorem dL_plan_16 : decode cL_plan 16 = .ok (.ireturn, 1) := by decide +kernel
theorem dL_plan_17 : decode cL_plan 17 = .ok (.astore 4, 2) := by decide +kernel
theorem dL_plan_19 : decode cL_plan 19 = .ok (.iconst 2, 1) := by decide +kernel
theorem dL_plan_20 : decode cL_plan 20 = .ok (.ireturn, 1) := by decide +kernel
theorem dL_plan_21 : decode cL_plan 21 = .ok (.astore 4, 2) := by decide +kernel
theorem dL_plan_23 : decode cL_plan 23 = .ok (.iconst 3, 1) := by decide +kernel
theorem dL_plan_24 : decode cL_plan 24 = .ok (.ireturn, 1) := by decide +kernel
theorem dL_plan_25 : decode cL_plan 25 = .ok (.iconst 0, 1) := by decide +kernel
theorem dL_plan_26 : decode cL_plan 26 = .ok (.ireturn, 1) := by decide +kernel
set_option maxRecDepth 20000 in
theorem ggL_rest_X6_rest : GoodIn wsL_rest wsX6_rest := goodIn_ca (goodIn_r _ [6, 7, 8, 9, 10, 11, 12, 5, 13, 14, 15, 16, 17, 18, 19, 20, 21, 22, 23, 24, 25, 26, 27, 28, 29, 30, 31, 32, 33, 34, 35, 36, 37, 38, 39, 40, 41, 42, 43, 44, 45, 46, 47, 48, 49, 50, 51, 52, 53, 54, 55, 56, 57, 58, 59, 60, 61, 62, 63, 64, 65, 66, 67, 68, 69, 70, 71, 72, 73, 74, 75, 76, 77, 78, 79, 80, 81, 82, 83, 84, 85, 86, 87, 88, 89, 90, 91, 92, 93, 94, 95, 96, 97, 98, 99, 100] (by decide +kernel) (by decide +kernel)) (goodIn_sub (fun _ h => List.mem_cons_of_mem _ (List.mem_append_right _ h)) (by decide +kernel))
set_option maxRecDepth 20000 in
theorem gL_rest_X6_rest : GoodIn wsL_rest (wsV RL 23 RX6 yX6_rest wsX6_rest) := goodIn_app (goodIn_of _ (by decide +kernel)) ggL_rest_X6_rest
theorem dL_rest_0 : decode cL_rest 0 = .ok (.aload_n 2, 1) := by decide +kernel
theorem dL_rest_1 : decode cL_rest 1 = .ok (.iconst 0, 1) := by decide +kernel
theorem dL_rest_2 : decode cL_rest 2 = .ok (.aload_n 0, 1) := by decide +kernel
theorem dL_rest_3 : decode cL_rest 3 = .ok (.iload_n 1, 1) := by decide +kernel
theorem dL_rest_4 : decode cL_rest 4 = .ok (.invokevirtual 23, 3) := by decide +kernel
theorem dL_rest_7 : decode cL_rest 7 = .ok (.i2l, 1) := by decide +kernel
theorem dL_rest_8 : decode cL_rest 8 = .ok (.lastore, 1) := by decide +kernel
theorem dL_rest_9 : decode cL_rest 9 = .ok (.goto 6, 3) := by decide +kernel
theorem dL_rest_12 : decode cL_rest 12 = .ok (.astore_n 3, 1) := by decide +kernel
theorem dL_rest_13 : decode cL_rest 13 = .ok (.iconst 1, 1) := by decide +kernel
theorem dL_rest_14 : decode cL_rest 14 = .ok (.ireturn, 1) := by decide +kernel
theorem dL_rest_15 : decode cL_rest 15 = .ok (.iconst 0, 1) := by decide +kernel
theorem dL_rest_16 : decode cL_rest 16 = .ok (.ireturn, 1) := by decide +kernel
set_option maxRecDepth 20000 in
theorem ggL_pass_X6_pass : GoodIn wsL_pass wsX6_pass := goodIn_ca (goodIn_r _ [6, 7, 8, 9, 10, 11, 5, 12, 13, 14, 15, 16, 17, 18, 19, 20, 21, 22, 23, 24, 25, 26, 27, 28, 29, 30, 31, 32, 33, 34, 35, 36, 37, 38, 39, 40, 41, 42, 43, 44, 45, 46, 47, 48, 49, 50, 51, 52, 53, 54, 55, 56, 57, 58, 59, 60, 61, 62, 63, 64, 65, 66, 67, 68, 69, 70, 71, 72, 73, 74, 75, 76, 77, 78, 79, 80, 81, 82, 83, 84, 85, 86, 87, 88, 89, 90, 91, 92, 93, 94, 95, 96, 97, 98, 99, 100, 101, 102, 103, 104, 105, 106, 107, 108, 109, 110, 111, 112, 113, 114, 115, 116, 117, 118, 119, 120, 121, 122, 123, 124, 125, 126, 127, 128, 129, 130, 131, 132, 133, 134, 135, 136, 137, 138, 139, 140, 141, 142, 143, 144, 145, 146, 147, 148, 149, 150, 151, 152, 153, 154, 155, 156, 157, 158, 159, 160, 161, 162, 163, 164, 165, 166, 167, 168, 169, 170, 171, 172, 173, 174, 175, 176, 177, 178, 179, 180, 181, 182, 183, 184, 185, 186] (by decide +kernel) (by decide +kernel)) (goodIn_sub (fun _ h => List.mem_cons_of_mem _ (List.mem_append_right _ h)) (by decide +kernel))
set_option maxRecDepth 20000 in
theorem gL_pass_X6_pass : GoodIn wsL_pass (wsV RL 26 RX6 yX6_pass wsX6_pass) := goodIn_app (goodIn_of _ (by decide +kernel)) ggL_pass_X6_pass
theorem dL_pass_0 : decode cL_pass 0 = .ok (.aload_n 2, 1) := by decide +kernel
theorem dL_pass_1 : decode cL_pass 1 = .ok (.iconst 0, 1) := by decide +kernel
theorem dL_pass_2 : decode cL_pass 2 = .ok (.aload_n 0, 1) := by decide +kernel
theorem dL_pass_3 : decode cL_pass 3 = .ok (.iload_n 1, 1) := by decide +kernel
theorem dL_pass_4 : decode cL_pass 4 = .ok (.invokevirtual 26, 3) := by decide +kernel
theorem dL_pass_7 : decode cL_pass 7 = .ok (.i2l, 1) := by decide +kernel
theorem dL_pass_8 : decode cL_pass 8 = .ok (.lastore, 1) := by decide +kernel
theorem dL_pass_9 : decode cL_pass 9 = .ok (.goto 6, 3) := by decide +kernel
theorem dL_pass_12 : decode cL_pass 12 = .ok (.astore_n 3, 1) := by decide +kernel
theorem dL_pass_13 : decode cL_pass 13 = .ok (.iconst 1, 1) := by decide +kernel
theorem dL_pass_14 : decode cL_pass 14 = .ok (.ireturn, 1) := by decide +kernel
theorem dL_pass_15 : decode cL_pass 15 = .ok (.iconst 0, 1) := by decide +kernel
theorem dL_pass_16 : decode cL_pass 16 = .ok (.ireturn, 1) := by decide +kernel
set_option maxRecDepth 20000 in
theorem ggL_root_X6_root : GoodIn wsL_root wsX6_root := goodIn_ca (goodIn_ca (goodIn_r _ [7, 8, 9, 10, 11, 12, 13, 14, 6, 15, 16, 17, 18, 19, 20, 21, 22, 23, 24, 25, 26, 27, 28, 29, 30, 31, 32, 33, 34, 35, 36, 37, 38, 39, 40, 41, 42, 43, 44, 45, 46, 47, 48, 49, 50, 51, 52, 53, 54, 55, 56, 57, 58, 59, 60, 61, 62, 63, 64, 65, 66, 67, 68, 69, 70, 71, 72, 73, 74, 75, 76, 77, 78, 79, 80, 81, 82, 83, 84, 85, 86, 87, 88, 89, 90, 91, 92, 93, 94, 95, 96, 97, 98, 99, 100, 101] (by decide +kernel) (by decide +kernel)) (goodIn_sub (fun _ h => List.mem_cons_of_mem _ (List.mem_append_left _ (List.mem_append_right _ h))) (by decide +kernel))) (goodIn_sub (fun _ h => List.mem_cons_of_mem _ (List.mem_append_right _ h)) (by decide +kernel))
set_option maxRecDepth 20000 in
theorem gL_root_X6_root : GoodIn wsL_root (wsV RL 29 RX6 yX6_root wsX6_root) := goodIn_app (goodIn_of _ (by decide +kernel)) ggL_root_X6_root
theorem dL_root_0 : decode cL_root 0 = .ok (.aload_n 3, 1) := by decide +kernel
theorem dL_root_1 : decode cL_root 1 = .ok (.iconst 0, 1) := by decide +kernel
theorem dL_root_2 : decode cL_root 2 = .ok (.aload_n 0, 1) := by decide +kernel
theorem dL_root_3 : decode cL_root 3 = .ok (.iload_n 1, 1) := by decide +kernel
theorem dL_root_4 : decode cL_root 4 = .ok (.iload_n 2, 1) := by decide +kernel
theorem dL_root_5 : decode cL_root 5 = .ok (.invokevirtual 29, 3) := by decide +kernel
theorem dL_root_8 : decode cL_root 8 = .ok (.i2l, 1) := by decide +kernel
theorem dL_root_9 : decode cL_root 9 = .ok (.lastore, 1) := by decide +kernel
theorem dL_root_10 : decode cL_root 10 = .ok (.goto 11, 3) := by decide +kernel
theorem dL_root_13 : decode cL_root 13 = .ok (.astore 4, 2) := by decide +kernel
theorem dL_root_15 : decode cL_root 15 = .ok (.iconst 1, 1) := by decide +kernel
theorem dL_root_16 : decode cL_root 16 = .ok (.ireturn, 1) := by decide +kernel
theorem dL_root_17 : decode cL_root 17 = .ok (.astore 4, 2) := by decide +kernel
theorem dL_root_19 : decode cL_root 19 = .ok (.iconst 2, 1) := by decide +kernel
theorem dL_root_20 : decode cL_root 20 = .ok (.ireturn, 1) := by decide +kernel
theorem dL_root_21 : decode cL_root 21 = .ok (.iconst 0, 1) := by decide +kernel
theorem dL_root_22 : decode cL_root 22 = .ok (.ireturn, 1) := by decide +kernel
set_option maxRecDepth 20000 in
theorem ggL_trap_X6_trap : GoodIn wsL_trap wsX6_trap := goodIn_ca (goodIn_ca (goodIn_ca (goodIn_r _ [8, 9, 10, 11, 12, 13, 14, 15, 16, 17, 7, 18, 19, 20, 21, 22, 23, 24, 25, 26, 27, 28, 29, 30, 31, 32, 33, 34, 35, 36, 37, 38, 39, 40, 41, 42, 43, 44, 45, 46, 47, 48, 49, 50, 51, 52, 53, 54, 55, 56, 57, 58, 59, 60, 61, 62, 63, 64, 65, 66, 67, 68, 69, 70, 71, 72, 73, 74, 75, 76, 77, 78, 79, 80, 81, 82, 83, 84, 85, 86, 87, 88, 89, 90, 91, 92, 93, 94, 95, 96, 97, 98, 99, 100, 101, 102, 103, 104, 105, 106, 107, 108] (by decide +kernel) (by decide +kernel)) (goodIn_sub (fun _ h => List.mem_cons_of_mem _ (List.mem_append_left _ (List.mem_append_left _ (List.mem_append_right _ h)))) (by decide +kernel))) (goodIn_sub (fun _ h => List.mem_cons_of_mem _ (List.mem_append_left _ (List.mem_append_right _ h))) (by decide +kernel))) (goodIn_sub (fun _ h => List.mem_cons_of_mem _ (List.mem_append_right _ h)) (by decide +kernel))
set_option maxRecDepth 20000 in
theorem gL_trap_X6_trap : GoodIn wsL_trap (wsV RL 32 RX6 yX6_trap wsX6_trap) := goodIn_app (goodIn_of _ (by decide +kernel)) ggL_trap_X6_trap
theorem dL_trap_0 : decode cL_trap 0 = .ok (.aload_n 3, 1) := by decide +kernel
theorem dL_trap_1 : decode cL_trap 1 = .ok (.iconst 0, 1) := by decide +kernel
theorem dL_trap_2 : decode cL_trap 2 = .ok (.aload_n 0, 1) := by decide +kernel
theorem dL_trap_3 : decode cL_trap 3 = .ok (.iload_n 1, 1) := by decide +kernel
theorem dL_trap_4 : decode cL_trap 4 = .ok (.iload_n 2, 1) := by decide +kernel
theorem dL_trap_5 : decode cL_trap 5 = .ok (.invokevirtual 32, 3) := by decide +kernel
theorem dL_trap_8 : decode cL_trap 8 = .ok (.i2l, 1) := by decide +kernel
theorem dL_trap_9 : decode cL_trap 9 = .ok (.lastore, 1) := by decide +kernel
theorem dL_trap_10 : decode cL_trap 10 = .ok (.goto 15, 3) := by decide +kernel
theorem dL_trap_13 : decode cL_trap 13 = .ok (.astore 4, 2) := by decide +kernel
theorem dL_trap_15 : decode cL_trap 15 = .ok (.iconst 1, 1) := by decide +kernel
theorem dL_trap_16 : decode cL_trap 16 = .ok (.ireturn, 1) := by decide +kernel
theorem dL_trap_17 : decode cL_trap 17 = .ok (.astore 4, 2) := by decide +kernel
theorem dL_trap_19 : decode cL_trap 19 = .ok (.iconst 2, 1) := by decide +kernel
theorem dL_trap_20 : decode cL_trap 20 = .ok (.ireturn, 1) := by decide +kernel
theorem dL_trap_21 : decode cL_trap 21 = .ok (.astore 4, 2) := by decide +kernel
theorem dL_trap_23 : decode cL_trap 23 = .ok (.iconst 3, 1) := by decide +kernel
theorem dL_trap_24 : decode cL_trap 24 = .ok (.ireturn, 1) := by decide +kernel
theorem dL_trap_25 : decode cL_trap 25 = .ok (.iconst 0, 1) := by decide +kernel
theorem dL_trap_26 : decode cL_trap 26 = .ok (.ireturn, 1) := by decide +kernel
set_option maxRecDepth 20000 in
theorem ggL_dig_X6_dig : GoodIn wsL_dig wsX6_dig := goodIn_ca (goodIn_r _ [6, 7, 8, 9, 10, 5, 11, 12, 13, 14, 15, 16, 17, 18, 19, 20, 21, 22, 23, 24, 25, 26, 27, 28, 29, 30, 31, 32, 33, 34, 35, 36, 37, 38, 39, 40, 41, 42, 43, 44, 45, 46, 47, 48, 49, 50, 51, 52, 53, 54, 55, 56, 57, 58, 59, 60, 61, 62, 63, 64, 65, 66, 67, 68, 69, 70, 71, 72, 73, 74, 75, 76, 77, 78, 79, 80, 81, 82, 83, 84, 85, 86, 87, 88, 89, 90, 91, 92, 93, 94, 95, 96, 97, 98, 99, 100, 101, 102, 103, 104, 105, 106, 107, 108, 109, 110, 111, 112, 113, 114, 115, 116, 117, 118, 119, 120, 121, 122, 123, 124, 125, 126, 127, 128, 129, 130, 131, 132, 133, 134, 135, 136, 137, 138, 139, 140, 141, 142, 143, 144, 145, 146, 147, 148, 149, 150, 151, 152, 153, 154, 155, 156, 157, 158, 159, 160, 161, 162, 163, 164, 165, 166, 167, 168, 169] (by decide +kernel) (by decide +kernel)) (goodIn_sub (fun _ h => List.mem_cons_of_mem _ (List.mem_append_right _ h)) (by decide +kernel))
set_option maxRecDepth 20000 in
theorem gL_dig_X6_dig : GoodIn wsL_dig (wsV RL 35 RX6 yX6_dig wsX6_dig) := goodIn_app (goodIn_of _ (by decide +kernel)) ggL_dig_X6_dig
theorem dL_dig_0 : decode cL_dig 0 = .ok (.aload_n 2, 1) := by decide +kernel
theorem dL_dig_1 : decode cL_dig 1 = .ok (.iconst 0, 1) := by decide +kernel
theorem dL_dig_2 : decode cL_dig 2 = .ok (.aload_n 0, 1) := by decide +kernel
theorem dL_dig_3 : decode cL_dig 3 = .ok (.iload_n 1, 1) := by decide +kernel
theorem dL_dig_4 : decode cL_dig 4 = .ok (.invokevirtual 35, 3) := by decide +kernel
theorem dL_dig_7 : decode cL_dig 7 = .ok (.i2l, 1) := by decide +kernel
theorem dL_dig_8 : decode cL_dig 8 = .ok (.lastore, 1) := by decide +kernel
theorem dL_dig_9 : decode cL_dig 9 = .ok (.goto 6, 3) := by decide +kernel
theorem dL_dig_12 : decode cL_dig 12 = .ok (.astore_n 3, 1) := by decide +kernel
theorem dL_dig_13 : decode cL_dig 13 = .ok (.iconst 1, 1) := by decide +kernel
theorem dL_dig_14 : decode cL_dig 14 = .ok (.ireturn, 1) := by decide +kernel
theorem dL_dig_15 : decode cL_dig 15 = .ok (.iconst 0, 1) := by decide +kernel
theorem dL_dig_16 : decode cL_dig 16 = .ok (.ireturn, 1) := by decide +kernel
set_option maxRecDepth 20000 in
theorem ggL_rake_X6_rake : GoodIn wsL_rake wsX6_rake := goodIn_ca (goodIn_ca (goodIn_r _ [7, 8, 9, 10, 11, 12, 13, 14, 6, 15, 16, 17, 18, 19, 20, 21, 22, 23, 24, 25, 26, 27, 28, 29, 30, 31, 32, 33, 34, 35, 36, 37, 38, 39, 40, 41, 42, 43, 44, 45, 46, 47, 48, 49, 50, 51, 52, 53, 54, 55, 56, 57, 58, 59, 60, 61, 62, 63, 64, 65, 66, 67, 68, 69, 70, 71, 72, 73, 74, 75, 76, 77, 78, 79, 80, 81, 82, 83, 84, 85, 86, 87, 88, 89, 90, 91, 92, 93, 94, 95, 96, 97, 98, 99, 100, 101, 102, 103, 104, 105, 106, 107, 108, 109, 110, 111, 112, 113, 114, 115, 116, 117, 118, 119, 120, 121, 122, 123, 124, 125, 126, 127, 128, 129, 130, 131, 132, 133, 134, 135, 136, 137, 138, 139, 140, 141, 142, 143, 144, 145, 146, 147, 148, 149, 150, 151, 152, 153, 154, 155, 156, 157, 158, 159, 160, 161, 162, 163, 164, 165, 166, 167, 168, 169, 170, 171, 172, 173, 174, 175, 176, 177, 178, 179, 180, 181, 182, 183, 184, 185, 186] (by decide +kernel) (by decide +kernel)) (goodIn_sub (fun _ h => List.mem_cons_of_mem _ (List.mem_append_left _ (List.mem_append_right _ h))) (by decide +kernel))) (goodIn_sub (fun _ h => List.mem_cons_of_mem _ (List.mem_append_right _ h)) (by decide +kernel))
set_option maxRecDepth 20000 in
theorem gL_rake_X6_rake : GoodIn wsL_rake (wsV RL 38 RX6 yX6_rake wsX6_rake) := goodIn_app (goodIn_of _ (by decide +kernel)) ggL_rake_X6_rake
theorem dL_rake_0 : decode cL_rake 0 = .ok (.aload_n 2, 1) := by decide +kernel
theorem dL_rake_1 : decode cL_rake 1 = .ok (.iconst 0, 1) := by decide +kernel
theorem dL_rake_2 : decode cL_rake 2 = .ok (.aload_n 0, 1) := by decide +kernel
theorem dL_rake_3 : decode cL_rake 3 = .ok (.iload_n 1, 1) := by decide +kernel
theorem dL_rake_4 : decode cL_rake 4 = .ok (.invokevirtual 38, 3) := by decide +kernel
theorem dL_rake_7 : decode cL_rake 7 = .ok (.i2l, 1) := by decide +kernel
theorem dL_rake_8 : decode cL_rake 8 = .ok (.lastore, 1) := by decide +kernel
theorem dL_rake_9 : decode cL_rake 9 = .ok (.goto 9, 3) := by decide +kernel
theorem dL_rake_12 : decode cL_rake 12 = .ok (.astore_n 3, 1) := by decide +kernel
theorem dL_rake_13 : decode cL_rake 13 = .ok (.iconst 1, 1) := by decide +kernel
theorem dL_rake_14 : decode cL_rake 14 = .ok (.ireturn, 1) := by decide +kernel
theorem dL_rake_15 : decode cL_rake 15 = .ok (.astore_n 3, 1) := by decide +kernel
theorem dL_rake_16 : decode cL_rake 16 = .ok (.iconst 2, 1) := by decide +kernel
theorem dL_rake_17 : decode cL_rake 17 = .ok (.ireturn, 1) := by decide +kernel
theorem dL_rake_18 : decode cL_rake 18 = .ok (.iconst 0, 1) := by decide +kernel
theorem dL_rake_19 : decode cL_rake 19 = .ok (.ireturn, 1) := by decide +kernel
set_option maxRecDepth 20000 in
theorem ggL_set_X6_set : GoodIn wsL_set wsX6_set := goodIn_ca (goodIn_r _ [6, 7, 8, 9, 10, 11, 12, 13, 5, 14, 15, 16, 17, 18, 19, 20, 21, 22, 23, 24, 25, 26, 27, 28, 29, 30, 31, 32, 33, 34, 35, 36, 37, 38, 39, 40, 41, 42, 43, 44, 45, 46, 47, 48, 49, 50, 51, 52, 53, 54, 55, 56, 57, 58, 59, 60, 61, 62, 63, 64, 65, 66, 67, 68, 69, 70, 71, 72, 73, 74, 75, 76, 77, 78, 79, 80, 81, 82, 83, 84, 85, 86, 87, 88, 89, 90, 91, 92, 93, 94, 95, 96, 97, 98, 99, 100, 101, 102, 103] (by decide +kernel) (by decide +kernel)) (goodIn_sub (fun _ h => List.mem_cons_of_mem _ (List.mem_append_right _ h)) (by decide +kernel))
set_option maxRecDepth 20000 in
theorem gL_set_X6_set : GoodIn wsL_set (wsV RL 41 RX6 yX6_set wsX6_set) := goodIn_app (goodIn_of _ (by decide +kernel)) ggL_set_X6_set
theorem dL_set_0 : decode cL_set 0 = .ok (.aload_n 2, 1) := by decide +kernel
theorem dL_set_1 : decode cL_set 1 = .ok (.iconst 0, 1) := by decide +kernel
theorem dL_set_2 : decode cL_set 2 = .ok (.aload_n 0, 1) := by decide +kernel
theorem dL_set_3 : decode cL_set 3 = .ok (.iload_n 1, 1) := by decide +kernel
theorem dL_set_4 : decode cL_set 4 = .ok (.invokevirtual 41, 3) := by decide +kernel
theorem dL_set_7 : decode cL_set 7 = .ok (.i2l, 1) := by decide +kernel
theorem dL_set_8 : decode cL_set 8 = .ok (.lastore, 1) := by decide +kernel
theorem dL_set_9 : decode cL_set 9 = .ok (.goto 6, 3) := by decide +kernel
theorem dL_set_12 : decode cL_set 12 = .ok (.astore_n 3, 1) := by decide +kernel
theorem dL_set_13 : decode cL_set 13 = .ok (.iconst 1, 1) := by decide +kernel
theorem dL_set_14 : decode cL_set 14 = .ok (.ireturn, 1) := by decide +kernel
theorem dL_set_15 : decode cL_set 15 = .ok (.iconst 0, 1) := by decide +kernel
theorem dL_set_16 : decode cL_set 16 = .ok (.ireturn, 1) := by decide +kernel
set_option maxRecDepth 20000 in
theorem ggL_append_X6_append : GoodIn wsL_append wsX6_append := goodIn_ca (goodIn_ca (goodIn_r _ [7, 8, 9, 10, 11, 12, 13, 14, 15, 16, 17, 18, 19, 20, 21, 22, 23, 24, 25, 26, 27, 28, 29, 30, 31] (by decide +kernel) (by decide +kernel)) (goodIn_sub (fun _ h => List.mem_cons_of_mem _ (List.mem_append_left _ (List.mem_append_right _ h))) (by decide +kernel))) (goodIn_sub (fun _ h => List.mem_cons_of_mem _ (List.mem_append_right _ h)) (by decide +kernel))
set_option maxRecDepth 20000 in
theorem gL_append_X6_append : GoodIn wsL_append (wsV RL 44 RX6 yX6_append wsX6_append) := goodIn_app (goodIn_of _ (by decide +kernel)) ggL_append_X6_append
theorem dL_append_0 : decode cL_append 0 = .ok (.aload_n 2, 1) := by decide +kernel
theorem dL_append_1 : decode cL_append 1 = .ok (.iconst 0, 1) := by decide +kernel
theorem dL_append_2 : decode cL_append 2 = .ok (.aload_n 0, 1) := by decide +kernel
theorem dL_append_3 : decode cL_append 3 = .ok (.iload_n 1, 1) := by decide +kernel
theorem dL_append_4 : decode cL_append 4 = .ok (.invokevirtual 44, 3) := by decide +kernel
theorem dL_append_7 : decode cL_append 7 = .ok (.i2l, 1) := by decide +kernel
theorem dL_append_8 : decode cL_append 8 = .ok (.lastore, 1) := by decide +kernel
theorem dL_append_9 : decode cL_append 9 = .ok (.goto 9, 3) := by decide +kernel
theorem dL_append_12 : decode cL_append 12 = .ok (.astore_n 3, 1) := by decide +kernel
theorem dL_append_13 : decode cL_append 13 = .ok (.iconst 1, 1) := by decide +kernel
theorem dL_append_14 : decode cL_append 14 = .ok (.ireturn, 1) := by decide +kernel
theorem dL_append_15 : decode cL_append 15 = .ok (.astore_n 3, 1) := by decide +kernel
theorem dL_append_16 : decode cL_append 16 = .ok (.iconst 2, 1) := by decide +kernel
theorem dL_append_17 : decode cL_append 17 = .ok (.ireturn, 1) := by decide +kernel
theorem dL_append_18 : decode cL_append 18 = .ok (.iconst 0, 1) := by decide +kernel
theorem dL_append_19 : decode cL_append 19 = .ok (.ireturn, 1) := by decide +kernel
set_option maxRecDepth 20000 in
theorem ggL_plans_X6_plans : GoodIn wsL_plans wsX6_plans := goodIn_ca (goodIn_r _ [6, 7, 8, 9, 10, 11, 12, 13, 14, 15, 16, 17, 18, 19, 20, 21, 22, 23, 24, 25, 26, 27, 28, 29, 5, 30, 31, 32, 33, 34, 35, 36, 37, 38, 39, 40, 41, 42, 43, 44, 45, 46, 47, 48, 49, 50, 51, 52, 53, 54, 55, 56, 57, 58, 59, 60, 61, 62, 63, 64, 65, 66, 67, 68, 69, 70, 71, 72, 73, 74, 75, 76, 77, 78, 79, 80, 81, 82, 83, 84, 85, 86, 87, 88, 89, 90, 91, 92, 93, 94, 95, 96, 97, 98, 99, 100, 101, 102, 103, 104, 105, 106, 107, 108, 109, 110, 111, 112, 113, 114, 115, 116, 117, 118, 119, 120, 121, 122] (by decide +kernel) (by decide +kernel)) (goodIn_sub (fun _ h => List.mem_cons_of_mem _ (List.mem_append_right _ h)) (by decide +kernel))
set_option maxRecDepth 20000 in
theorem gL_plans_X6_plans : GoodIn wsL_plans (wsV RL 47 RX6 yX6_plans wsX6_plans) := goodIn_app (goodIn_of _ (by decide +kernel)) ggL_plans_X6_plans
theorem dL_plans_0 : decode cL_plans 0 = .ok (.aload_n 1, 1) := by decide +kernel
theorem dL_plans_1 : decode cL_plans 1 = .ok (.iconst 0, 1) := by decide +kernel
theorem dL_plans_2 : decode cL_plans 2 = .ok (.aload_n 0, 1) := by decide +kernel
theorem dL_plans_3 : decode cL_plans 3 = .ok (.invokevirtual 47, 3) := by decide +kernel
theorem dL_plans_6 : decode cL_plans 6 = .ok (.i2l, 1) := by decide +kernel
theorem dL_plans_7 : decode cL_plans 7 = .ok (.lastore, 1) := by decide +kernel
theorem dL_plans_8 : decode cL_plans 8 = .ok (.goto 6, 3) := by decide +kernel
theorem dL_plans_11 : decode cL_plans 11 = .ok (.astore_n 2, 1) := by decide +kernel
theorem dL_plans_12 : decode cL_plans 12 = .ok (.iconst 1, 1) := by decide +kernel
theorem dL_plans_13 : decode cL_plans 13 = .ok (.ireturn, 1) := by decide +kernel
theorem dL_plans_14 : decode cL_plans 14 = .ok (.iconst 0, 1) := by decide +kernel
theorem dL_plans_15 : decode cL_plans 15 = .ok (.ireturn, 1) := by decide +kernel
set_option maxRecDepth 20000 in
theorem ggL_undo_X6_undo : GoodIn wsL_undo wsX6_undo := goodIn_ca (goodIn_r _ [6, 7, 8, 9, 10, 11, 12, 13, 14, 15, 16, 17, 18, 19, 20, 21, 22, 23, 24, 25, 26, 27, 28, 29, 30, 31, 32, 33, 34, 35, 36, 37, 38, 39, 40, 41, 42, 43, 44, 45, 46, 47, 48, 49, 50, 51, 52, 53, 54, 55, 56, 57, 58, 59, 60, 61, 62, 63, 64, 65, 66, 67, 68, 69, 70, 71, 72, 73, 74, 75, 76, 77, 78, 79, 80, 81, 82, 83, 84, 85, 86, 87, 88, 89] (by decide +kernel) (by decide +kernel)) (goodIn_sub (fun _ h => List.mem_cons_of_mem _ (List.mem_append_right _ h)) (by decide +kernel))
set_option maxRecDepth 20000 in
theorem gL_undo_X6_undo : GoodIn wsL_undo (wsV RL 51 RX6 yX6_undo wsX6_undo) := goodIn_app (goodIn_of _ (by decide +kernel)) ggL_undo_X6_undo
theorem dL_undo_0 : decode cL_undo 0 = .ok (.aload_n 1, 1) := by decide +kernel
theorem dL_undo_1 : decode cL_undo 1 = .ok (.iconst 0, 1) := by decide +kernel
theorem dL_undo_2 : decode cL_undo 2 = .ok (.aload_n 0, 1) := by decide +kernel
theorem dL_undo_3 : decode cL_undo 3 = .ok (.invokevirtual 51, 3) := by decide +kernel
theorem dL_undo_6 : decode cL_undo 6 = .ok (.i2l, 1) := by decide +kernel
theorem dL_undo_7 : decode cL_undo 7 = .ok (.lastore, 1) := by decide +kernel
theorem dL_undo_8 : decode cL_undo 8 = .ok (.goto 6, 3) := by decide +kernel
theorem dL_undo_11 : decode cL_undo 11 = .ok (.astore_n 2, 1) := by decide +kernel
theorem dL_undo_12 : decode cL_undo 12 = .ok (.iconst 1, 1) := by decide +kernel
theorem dL_undo_13 : decode cL_undo 13 = .ok (.ireturn, 1) := by decide +kernel
theorem dL_undo_14 : decode cL_undo 14 = .ok (.iconst 0, 1) := by decide +kernel
theorem dL_undo_15 : decode cL_undo 15 = .ok (.ireturn, 1) := by decide +kernel
set_option maxRecDepth 20000 in
theorem ggL_restore_X6_restore : GoodIn wsL_restore wsX6_restore := goodIn_ca (goodIn_r _ [6, 7, 8, 9, 10, 11, 12, 13, 14, 15, 16, 5, 17, 18, 19, 20, 21, 22, 23, 24, 25, 26, 27, 28, 29, 30, 31, 32, 33, 34, 35, 36, 37, 38, 39, 40, 41, 42, 43, 44, 45, 46, 47, 48, 49, 50, 51, 52, 53, 54, 55, 56, 57, 58, 59, 60, 61, 62, 63, 64, 65, 66, 67, 68, 69, 70, 71, 72, 73, 74, 75, 76, 77, 78, 79, 80, 81, 82, 83, 84, 85, 86, 87, 88, 89, 90, 91, 92, 93, 94, 95, 96, 97] (by decide +kernel) (by decide +kernel)) (goodIn_sub (fun _ h => List.mem_cons_of_mem _ (List.mem_append_right _ h)) (by decide +kernel))
set_option maxRecDepth 20000 in
theorem gL_restore_X6_restore : GoodIn wsL_restore (wsV RL 54 RX6 yX6_restore wsX6_restore) := goodIn_app (goodIn_of _ (by decide +kernel)) ggL_restore_X6_restore
theorem dL_restore_0 : decode cL_restore 0 = .ok (.aload_n 1, 1) := by decide +kernel
theorem dL_restore_1 : decode cL_restore 1 = .ok (.iconst 0, 1) := by decide +kernel
theorem dL_restore_2 : decode cL_restore 2 = .ok (.aload_n 0, 1) := by decide +kernel
theorem dL_restore_3 : decode cL_restore 3 = .ok (.invokevirtual 54, 3) := by decide +kernel
theorem dL_restore_6 : decode cL_restore 6 = .ok (.i2l, 1) := by decide +kernel
theorem dL_restore_7 : decode cL_restore 7 = .ok (.lastore, 1) := by decide +kernel
theorem dL_restore_8 : decode cL_restore 8 = .ok (.goto 6, 3) := by decide +kernel
theorem dL_restore_11 : decode cL_restore 11 = .ok (.astore_n 2, 1) := by decide +kernel
theorem dL_restore_12 : decode cL_restore 12 = .ok (.iconst 1, 1) := by decide +kernel
theorem dL_restore_13 : decode cL_restore 13 = .ok (.ireturn, 1) := by decide +kernel
theorem dL_restore_14 : decode cL_restore 14 = .ok (.iconst 0, 1) := by decide +kernel
theorem dL_restore_15 : decode cL_restore 15 = .ok (.ireturn, 1) := by decide +kernel
set_option maxRecDepth 20000 in
theorem ggL_tuft_X6_tuft : GoodIn wsL_tuft wsX6_tuft := goodIn_ca (goodIn_ca (goodIn_r _ [7, 8, 9, 10, 11, 12, 6, 13, 14, 15, 16, 17, 18, 19, 20, 21, 22, 23, 24, 25, 26, 27, 28, 29, 30, 31, 32, 33, 34, 35, 36, 37, 38, 39, 40, 41, 42, 43, 44, 45, 46, 47, 48, 49, 50, 51, 52, 53, 54, 55, 56, 57, 58, 59, 60, 61, 62, 63, 64, 65, 66, 67, 68, 69, 70, 71, 72, 73, 74, 75, 76, 77, 78, 79, 80, 81, 82, 83, 84, 85, 86, 87, 88, 89, 90, 91, 92, 93, 94, 95, 96, 97, 98, 99, 100, 101, 102, 103, 104, 105, 106, 107, 108, 109, 110, 111, 112, 113, 114, 115, 116, 117, 118, 119, 120, 121, 122, 123, 124, 125, 126, 127, 128, 129, 130, 131, 132, 133, 134, 135, 136, 137, 138, 139, 140, 141, 142, 143, 144] (by decide +kernel) (by decide +kernel)) (goodIn_sub (fun _ h => List.mem_cons_of_mem _ (List.mem_append_left _ (List.mem_append_right _ h))) (by decide +kernel))) (goodIn_sub (fun _ h => List.mem_cons_of_mem _ (List.mem_append_right _ h)) (by decide +kernel))
set_option maxRecDepth 20000 in
theorem gL_tuft_X6_tuft : GoodIn wsL_tuft (wsV RL 57 RX6 yX6_tuft wsX6_tuft) := goodIn_app (goodIn_of _ (by decide +kernel)) ggL_tuft_X6_tuft
theorem dL_tuft_0 : decode cL_tuft 0 = .ok (.aload_n 3, 1) := by decide +kernel
theorem dL_tuft_1 : decode cL_tuft 1 = .ok (.iconst 0, 1) := by decide +kernel
theorem dL_tuft_2 : decode cL_tuft 2 = .ok (.aload_n 0, 1) := by decide +kernel
theorem dL_tuft_3 : decode cL_tuft 3 = .ok (.iload_n 1, 1) := by decide +kernel
theorem dL_tuft_4 : decode cL_tuft 4 = .ok (.iload_n 2, 1) := by decide +kernel
theorem dL_tuft_5 : decode cL_tuft 5 = .ok (.invokevirtual 57, 3) := by decide +kernel
theorem dL_tuft_8 : decode cL_tuft 8 = .ok (.i2l, 1) := by decide +kernel
theorem dL_tuft_9 : decode cL_tuft 9 = .ok (.lastore, 1) := by decide +kernel
theorem dL_tuft_10 : decode cL_tuft 10 = .ok (.goto 11, 3) := by decide +kernel
theorem dL_tuft_13 : decode cL_tuft 13 = .ok (.astore 4, 2) := by decide +kernel
theorem dL_tuft_15 : decode cL_tuft 15 = .ok (.iconst 1, 1) := by decide +kernel
theorem dL_tuft_16 : decode cL_tuft 16 = .ok (.ireturn, 1) := by decide +kernel
theorem dL_tuft_17 : decode cL_tuft 17 = .ok (.astore 4, 2) := by decide +kernel
theorem dL_tuft_19 : decode cL_tuft 19 = .ok (.iconst 2, 1) := by decide +kernel
theorem dL_tuft_20 : decode cL_tuft 20 = .ok (.ireturn, 1) := by decide +kernel
theorem dL_tuft_21 : decode cL_tuft 21 = .ok (.iconst 0, 1) := by decide +kernel
theorem dL_tuft_22 : decode cL_tuft 22 = .ok (.ireturn, 1) := by decide +kernel
set_option maxRecDepth 20000 in
theorem ggL_moleOf_X6_moleOf : GoodIn wsL_moleOf wsX6_moleOf := goodIn_ca (goodIn_ca (goodIn_r _ [7, 8, 9, 10, 11, 12, 6, 13, 14, 15, 16, 17, 18, 19, 20, 21, 22, 23, 24, 25, 26, 27, 28, 29, 30, 31, 32, 33, 34, 35, 36, 37, 38, 39, 40, 41, 42, 43, 44, 45, 46, 47, 48, 49, 50, 51, 52, 53, 54, 55, 56, 57, 58, 59, 60, 61, 62, 63, 64, 65, 66, 67] (by decide +kernel) (by decide +kernel)) (goodIn_sub (fun _ h => List.mem_cons_of_mem _ (List.mem_append_left _ (List.mem_append_right _ h))) (by decide +kernel))) (goodIn_sub (fun _ h => List.mem_cons_of_mem _ (List.mem_append_right _ h)) (by decide +kernel))
set_option maxRecDepth 20000 in
theorem gL_moleOf_X6_moleOf : GoodIn wsL_moleOf (wsV RL 60 RX6 yX6_moleOf wsX6_moleOf) := goodIn_app (goodIn_of _ (by decide +kernel)) ggL_moleOf_X6_moleOf
theorem dL_moleOf_0 : decode cL_moleOf 0 = .ok (.aload_n 3, 1) := by decide +kernel
theorem dL_moleOf_1 : decode cL_moleOf 1 = .ok (.iconst 0, 1) := by decide +kernel
theorem dL_moleOf_2 : decode cL_moleOf 2 = .ok (.aload_n 0, 1) := by decide +kernel
theorem dL_moleOf_3 : decode cL_moleOf 3 = .ok (.iload_n 1, 1) := by decide +kernel
theorem dL_moleOf_4 : decode cL_moleOf 4 = .ok (.iload_n 2, 1) := by decide +kernel
theorem dL_moleOf_5 : decode cL_moleOf 5 = .ok (.invokevirtual 60, 3) := by decide +kernel
theorem dL_moleOf_8 : decode cL_moleOf 8 = .ok (.i2l, 1) := by decide +kernel
theorem dL_moleOf_9 : decode cL_moleOf 9 = .ok (.lastore, 1) := by decide +kernel
theorem dL_moleOf_10 : decode cL_moleOf 10 = .ok (.goto 11, 3) := by decide +kernel
theorem dL_moleOf_13 : decode cL_moleOf 13 = .ok (.astore 4, 2) := by decide +kernel
theorem dL_moleOf_15 : decode cL_moleOf 15 = .ok (.iconst 1, 1) := by decide +kernel
theorem dL_moleOf_16 : decode cL_moleOf 16 = .ok (.ireturn, 1) := by decide +kernel
theorem dL_moleOf_17 : decode cL_moleOf 17 = .ok (.astore 4, 2) := by decide +kernel
theorem dL_moleOf_19 : decode cL_moleOf 19 = .ok (.iconst 2, 1) := by decide +kernel
theorem dL_moleOf_20 : decode cL_moleOf 20 = .ok (.ireturn, 1) := by decide +kernel
theorem dL_moleOf_21 : decode cL_moleOf 21 = .ok (.iconst 0, 1) := by decide +kernel
theorem dL_moleOf_22 : decode cL_moleOf 22 = .ok (.ireturn, 1) := by decide +kernel
set_option maxRecDepth 20000 in
theorem ggL_tunnel_X6_tunnel : GoodIn wsL_tunnel wsX6_tunnel := goodIn_ca (goodIn_ca (goodIn_r _ [7, 8, 9, 10, 11, 12, 6, 13, 14, 15, 16, 17, 18, 19, 20, 21, 22, 23, 24, 25, 26, 27, 28, 29, 30, 31, 32, 33, 34, 35, 36, 37, 38, 39, 40, 41, 42, 43, 44, 45, 46, 47, 48, 49, 50, 51, 52, 53, 54, 55, 56, 57, 58, 59, 60, 61, 62, 63, 64, 65, 66, 67, 68, 69, 70, 71, 72, 73, 74, 75, 76, 77] (by decide +kernel) (by decide +kernel)) (goodIn_sub (fun _ h => List.mem_cons_of_mem _ (List.mem_append_left _ (List.mem_append_right _ h))) (by decide +kernel))) (goodIn_sub (fun _ h => List.mem_cons_of_mem _ (List.mem_append_right _ h)) (by decide +kernel))
set_option maxRecDepth 20000 in
theorem gL_tunnel_X6_tunnel : GoodIn wsL_tunnel (wsV RL 63 RX6 yX6_tunnel wsX6_tunnel) := goodIn_app (goodIn_of _ (by decide +kernel)) ggL_tunnel_X6_tunnel
theorem dL_tunnel_0 : decode cL_tunnel 0 = .ok (.aload_n 3, 1) := by decide +kernel
theorem dL_tunnel_1 : decode cL_tunnel 1 = .ok (.iconst 0, 1) := by decide +kernel
theorem dL_tunnel_2 : decode cL_tunnel 2 = .ok (.aload_n 0, 1) := by decide +kernel
theorem dL_tunnel_3 : decode cL_tunnel 3 = .ok (.iload_n 1, 1) := by decide +kernel
theorem dL_tunnel_4 : decode cL_tunnel 4 = .ok (.iload_n 2, 1) := by decide +kernel
theorem dL_tunnel_5 : decode cL_tunnel 5 = .ok (.invokevirtual 63, 3) := by decide +kernel
theorem dL_tunnel_8 : decode cL_tunnel 8 = .ok (.i2l, 1) := by decide +kernel
theorem dL_tunnel_9 : decode cL_tunnel 9 = .ok (.lastore, 1) := by decide +kernel
theorem dL_tunnel_10 : decode cL_tunnel 10 = .ok (.goto 11, 3) := by decide +kernel
theorem dL_tunnel_13 : decode cL_tunnel 13 = .ok (.astore 4, 2) := by decide +kernel
theorem dL_tunnel_15 : decode cL_tunnel 15 = .ok (.iconst 1, 1) := by decide +kernel
theorem dL_tunnel_16 : decode cL_tunnel 16 = .ok (.ireturn, 1) := by decide +kernel
theorem dL_tunnel_17 : decode cL_tunnel 17 = .ok (.astore 4, 2) := by decide +kernel
theorem dL_tunnel_19 : decode cL_tunnel 19 = .ok (.iconst 2, 1) := by decide +kernel
theorem dL_tunnel_20 : decode cL_tunnel 20 = .ok (.ireturn, 1) := by decide +kernel
theorem dL_tunnel_21 : decode cL_tunnel 21 = .ok (.iconst 0, 1) := by decide +kernel
theorem dL_tunnel_22 : decode cL_tunnel 22 = .ok (.ireturn, 1) := by decide +kernel
set_option maxRecDepth 20000 in
theorem ggL_cell_X6_cell : GoodIn wsL_cell wsX6_cell := goodIn_ca (goodIn_ca (goodIn_r _ [7, 8, 9, 10, 11, 12, 13, 14, 6, 15, 16, 17, 18, 19, 20, 21, 22, 23, 24, 25, 26, 27, 28, 29, 30, 31, 32, 33, 34, 35, 36, 37, 38, 39, 40, 41, 42, 43, 44, 45, 46, 47, 48, 49, 50, 51, 52, 53, 54, 55, 56, 57, 58, 59, 60, 61] (by decide +kernel) (by decide +kernel)) (goodIn_sub (fun _ h => List.mem_cons_of_mem _ (List.mem_append_left _ (List.mem_append_right _ h))) (by decide +kernel))) (goodIn_sub (fun _ h => List.mem_cons_of_mem _ (List.mem_append_right _ h)) (by decide +kernel))
set_option maxRecDepth 20000 in
theorem gL_cell_X6_cell : GoodIn wsL_cell (wsV RL 66 RX6 yX6_cell wsX6_cell) := goodIn_app (goodIn_of _ (by decide +kernel)) ggL_cell_X6_cell
theorem dL_cell_0 : decode cL_cell 0 = .ok (.aload_n 3, 1) := by decide +kernel
theorem dL_cell_1 : decode cL_cell 1 = .ok (.iconst 0, 1) := by decide +kernel
theorem dL_cell_2 : decode cL_cell 2 = .ok (.aload_n 0, 1) := by decide +kernel
theorem dL_cell_3 : decode cL_cell 3 = .ok (.iload_n 1, 1) := by decide +kernel
theorem dL_cell_4 : decode cL_cell 4 = .ok (.iload_n 2, 1) := by decide +kernel
theorem dL_cell_5 : decode cL_cell 5 = .ok (.invokevirtual 66, 3) := by decide +kernel
theorem dL_cell_8 : decode cL_cell 8 = .ok (.i2l, 1) := by decide +kernel
theorem dL_cell_9 : decode cL_cell 9 = .ok (.lastore, 1) := by decide +kernel
theorem dL_cell_10 : decode cL_cell 10 = .ok (.goto 11, 3) := by decide +kernel
theorem dL_cell_13 : decode cL_cell 13 = .ok (.astore 4, 2) := by decide +kernel
theorem dL_cell_15 : decode cL_cell 15 = .ok (.iconst 1, 1) := by decide +kernel
theorem dL_cell_16 : decode cL_cell 16 = .ok (.ireturn, 1) := by decide +kernel
theorem dL_cell_17 : decode cL_cell 17 = .ok (.astore 4, 2) := by decide +kernel
theorem dL_cell_19 : decode cL_cell 19 = .ok (.iconst 2, 1) := by decide +kernel
theorem dL_cell_20 : decode cL_cell 20 = .ok (.ireturn, 1) := by decide +kernel
theorem dL_cell_21 : decode cL_cell 21 = .ok (.iconst 0, 1) := by decide +kernel
theorem dL_cell_22 : decode cL_cell 22 = .ok (.ireturn, 1) := by decide +kernel
set_option maxRecDepth 20000 in
theorem ggL_count_X6_count : GoodIn wsL_count wsX6_count := goodIn_ca (goodIn_r _ [6, 7, 8, 9, 10, 11, 5, 12, 13, 14, 15, 16, 17, 18, 19, 20, 21, 22, 23, 24, 25, 26, 27, 28, 29, 30, 31, 32, 33, 34, 35, 36, 37, 38, 39, 40, 41, 42, 43, 44, 45, 46, 47, 48, 49, 50, 51, 52, 53, 54, 55, 56, 57, 58, 59, 60, 61, 62, 63, 64, 65, 66, 67, 68, 69, 70, 71, 72, 73, 74, 75, 76, 77, 78, 79, 80, 81, 82, 83, 84, 85, 86, 87, 88, 89, 90, 91, 92, 93, 94, 95, 96, 97, 98, 99, 100, 101, 102, 103, 104, 105, 106, 107, 108, 109, 110, 111, 112, 113, 114, 115, 116, 117, 118, 119, 120, 121, 122, 123, 124, 125, 126, 127, 128, 129, 130, 131, 132, 133, 134, 135, 136, 137, 138, 139, 140, 141, 142, 143, 144, 145, 146, 147, 148, 149, 150, 151, 152, 153, 154, 155, 156, 157, 158, 159, 160, 161, 162, 163, 164, 165, 166, 167, 168, 169, 170, 171, 172, 173, 174, 175, 176, 177, 178, 179, 180, 181, 182, 183, 184] (by decide +kernel) (by decide +kernel)) (goodIn_sub (fun _ h => List.mem_cons_of_mem _ (List.mem_append_right _ h)) (by decide +kernel))
set_option maxRecDepth 20000 in
theorem gL_count_X6_count : GoodIn wsL_count (wsV RL 69 RX6 yX6_count wsX6_count) := goodIn_app (goodIn_of _ (by decide +kernel)) ggL_count_X6_count
theorem dL_count_0 : decode cL_count 0 = .ok (.aload_n 2, 1) := by decide +kernel
theorem dL_count_1 : decode cL_count 1 = .ok (.iconst 0, 1) := by decide +kernel
theorem dL_count_2 : decode cL_count 2 = .ok (.aload_n 0, 1) := by decide +kernel
theorem dL_count_3 : decode cL_count 3 = .ok (.iload_n 1, 1) := by decide +kernel
theorem dL_count_4 : decode cL_count 4 = .ok (.invokevirtual 69, 3) := by decide +kernel
theorem dL_count_7 : decode cL_count 7 = .ok (.i2l, 1) := by decide +kernel
theorem dL_count_8 : decode cL_count 8 = .ok (.lastore, 1) := by decide +kernel
theorem dL_count_9 : decode cL_count 9 = .ok (.goto 6, 3) := by decide +kernel
theorem dL_count_12 : decode cL_count 12 = .ok (.astore_n 3, 1) := by decide +kernel
theorem dL_count_13 : decode cL_count 13 = .ok (.iconst 1, 1) := by decide +kernel
theorem dL_count_14 : decode cL_count 14 = .ok (.ireturn, 1) := by decide +kernel
theorem dL_count_15 : decode cL_count 15 = .ok (.iconst 0, 1) := by decide +kernel
theorem dL_count_16 : decode cL_count 16 = .ok (.ireturn, 1) := by decide +kernel
set_option maxRecDepth 20000 in
theorem ggL_joined_X6_joined : GoodIn wsL_joined wsX6_joined := goodIn_ca (goodIn_r _ [6, 7, 8, 9, 10, 11, 12, 5, 13, 14, 15, 16, 17, 18, 19, 20, 21, 22, 23, 24, 25, 26, 27, 28, 29, 30, 31, 32, 33, 34, 35, 36, 37, 38, 39, 40, 41, 42, 43, 44, 45, 46, 47, 48, 49, 50, 51, 52, 53, 54, 55, 56, 57, 58, 59, 60, 61, 62, 63, 64, 65, 66, 67, 68, 69, 70, 71, 72, 73, 74, 75, 76, 77, 78, 79, 80, 81, 82, 83, 84] (by decide +kernel) (by decide +kernel)) (goodIn_sub (fun _ h => List.mem_cons_of_mem _ (List.mem_append_right _ h)) (by decide +kernel))
set_option maxRecDepth 20000 in
theorem gL_joined_X6_joined : GoodIn wsL_joined (wsV RL 72 RX6 yX6_joined wsX6_joined) := goodIn_app (goodIn_of _ (by decide +kernel)) ggL_joined_X6_joined
theorem dL_joined_0 : decode cL_joined 0 = .ok (.aload_n 3, 1) := by decide +kernel
theorem dL_joined_1 : decode cL_joined 1 = .ok (.iconst 0, 1) := by decide +kernel
theorem dL_joined_2 : decode cL_joined 2 = .ok (.aload_n 0, 1) := by decide +kernel
theorem dL_joined_3 : decode cL_joined 3 = .ok (.iload_n 1, 1) := by decide +kernel
theorem dL_joined_4 : decode cL_joined 4 = .ok (.iload_n 2, 1) := by decide +kernel
theorem dL_joined_5 : decode cL_joined 5 = .ok (.invokevirtual 72, 3) := by decide +kernel
theorem dL_joined_8 : decode cL_joined 8 = .ok (.i2l, 1) := by decide +kernel
theorem dL_joined_9 : decode cL_joined 9 = .ok (.lastore, 1) := by decide +kernel
theorem dL_joined_10 : decode cL_joined 10 = .ok (.goto 7, 3) := by decide +kernel
theorem dL_joined_13 : decode cL_joined 13 = .ok (.astore 4, 2) := by decide +kernel
theorem dL_joined_15 : decode cL_joined 15 = .ok (.iconst 1, 1) := by decide +kernel
theorem dL_joined_16 : decode cL_joined 16 = .ok (.ireturn, 1) := by decide +kernel
theorem dL_joined_17 : decode cL_joined 17 = .ok (.iconst 0, 1) := by decide +kernel
theorem dL_joined_18 : decode cL_joined 18 = .ok (.ireturn, 1) := by decide +kernel
set_option maxRecDepth 20000 in
theorem ggL_fewest_X6_fewest : GoodIn wsL_fewest wsX6_fewest := goodIn_ca (goodIn_r _ [6, 7, 8, 9, 10, 11, 12, 5, 13, 14, 15, 16, 17, 18, 19, 20, 21, 22, 23, 24, 25, 26, 27, 28, 29, 30, 31, 32, 33, 34, 35, 36, 37, 38, 39, 40, 41, 42, 43, 44, 45, 46, 47, 48, 49, 50, 51, 52, 53, 54, 55, 56, 57, 58, 59, 60, 61, 62, 63, 64, 65, 66, 67, 68, 69, 70, 71, 72, 73, 74, 75, 76, 77, 78, 79, 80, 81, 82, 83, 84] (by decide +kernel) (by decide +kernel)) (goodIn_sub (fun _ h => List.mem_cons_of_mem _ (List.mem_append_right _ h)) (by decide +kernel))
set_option maxRecDepth 20000 in
theorem gL_fewest_X6_fewest : GoodIn wsL_fewest (wsV RL 75 RX6 yX6_fewest wsX6_fewest) := goodIn_app (goodIn_of _ (by decide +kernel)) ggL_fewest_X6_fewest
theorem dL_fewest_0 : decode cL_fewest 0 = .ok (.aload_n 3, 1) := by decide +kernel
theorem dL_fewest_1 : decode cL_fewest 1 = .ok (.iconst 0, 1) := by decide +kernel
theorem dL_fewest_2 : decode cL_fewest 2 = .ok (.aload_n 0, 1) := by decide +kernel
theorem dL_fewest_3 : decode cL_fewest 3 = .ok (.iload_n 1, 1) := by decide +kernel
theorem dL_fewest_4 : decode cL_fewest 4 = .ok (.iload_n 2, 1) := by decide +kernel
theorem dL_fewest_5 : decode cL_fewest 5 = .ok (.invokevirtual 75, 3) := by decide +kernel
theorem dL_fewest_8 : decode cL_fewest 8 = .ok (.i2l, 1) := by decide +kernel
theorem dL_fewest_9 : decode cL_fewest 9 = .ok (.lastore, 1) := by decide +kernel
theorem dL_fewest_10 : decode cL_fewest 10 = .ok (.goto 7, 3) := by decide +kernel
theorem dL_fewest_13 : decode cL_fewest 13 = .ok (.astore 4, 2) := by decide +kernel
theorem dL_fewest_15 : decode cL_fewest 15 = .ok (.iconst 1, 1) := by decide +kernel
theorem dL_fewest_16 : decode cL_fewest 16 = .ok (.ireturn, 1) := by decide +kernel
theorem dL_fewest_17 : decode cL_fewest 17 = .ok (.iconst 0, 1) := by decide +kernel
theorem dL_fewest_18 : decode cL_fewest 18 = .ok (.ireturn, 1) := by decide +kernel
set_option maxRecDepth 20000 in
theorem ggL_ifDug_X6_ifDug : GoodIn wsL_ifDug wsX6_ifDug := goodIn_ca (goodIn_ca (goodIn_r _ [7, 8, 9, 10, 11, 12, 13, 14, 6, 15, 16, 17, 18, 19, 20, 21, 22, 23, 24, 25, 26, 27, 28, 29, 30, 31, 32, 33, 34, 35, 36, 37, 38, 39, 40, 41, 42, 43, 44, 45, 46, 47, 48, 49, 50, 51, 52, 53, 54, 55, 56, 57, 58, 59, 60, 61, 62, 63, 64, 65, 66, 67, 68, 69, 70, 71, 72, 73, 74, 75, 76, 77, 78, 79, 80, 81, 82, 83, 84, 85, 86, 87, 88, 89, 90, 91, 92, 93, 94, 95, 96, 97, 98, 99, 100, 101, 102, 103, 104, 105, 106, 107, 108, 109, 110, 111, 112, 113, 114, 115, 116, 117, 118, 119, 120, 121, 122, 123, 124, 125, 126, 127, 128, 129, 130, 131, 132, 133, 134, 135, 136, 137, 138, 139, 140, 141, 142, 143, 144, 145, 146, 147, 148, 149, 150, 151, 152, 153, 154, 155, 156, 157, 158, 159, 160, 161, 162, 163, 164, 165, 166, 167, 168, 169, 170, 171, 172, 173, 174, 175, 176, 177, 178, 179, 180, 181, 182, 183, 184, 185, 186, 187, 188, 189, 190, 191, 192, 193, 194, 195, 196, 197, 198, 199, 200, 201, 202, 203, 204, 205, 206, 207, 208, 209, 210, 211, 212, 213, 214, 215, 216, 217, 218, 219, 220, 221, 222, 223, 224, 225, 226, 227, 228, 229, 230, 231] (by decide +kernel) (by decide +kernel)) (goodIn_sub (fun _ h => List.mem_cons_of_mem _ (List.mem_append_left _ (List.mem_append_right _ h))) (by decide +kernel))) (goodIn_sub (fun _ h => List.mem_cons_of_mem _ (List.mem_append_right _ h)) (by decide +kernel))
set_option maxRecDepth 20000 in
theorem gL_ifDug_X6_ifDug : GoodIn wsL_ifDug (wsV RL 78 RX6 yX6_ifDug wsX6_ifDug) := goodIn_app (goodIn_of _ (by decide +kernel)) ggL_ifDug_X6_ifDug
theorem dL_ifDug_0 : decode cL_ifDug 0 = .ok (.aload_n 3, 1) := by decide +kernel
theorem dL_ifDug_1 : decode cL_ifDug 1 = .ok (.iconst 0, 1) := by decide +kernel
theorem dL_ifDug_2 : decode cL_ifDug 2 = .ok (.aload_n 0, 1) := by decide +kernel
theorem dL_ifDug_3 : decode cL_ifDug 3 = .ok (.iload_n 1, 1) := by decide +kernel
theorem dL_ifDug_4 : decode cL_ifDug 4 = .ok (.iload_n 2, 1) := by decide +kernel
theorem dL_ifDug_5 : decode cL_ifDug 5 = .ok (.invokevirtual 78, 3) := by decide +kernel
theorem dL_ifDug_8 : decode cL_ifDug 8 = .ok (.i2l, 1) := by decide +kernel
theorem dL_ifDug_9 : decode cL_ifDug 9 = .ok (.lastore, 1) := by decide +kernel
theorem dL_ifDug_10 : decode cL_ifDug 10 = .ok (.goto 11, 3) := by decide +kernel
theorem dL_ifDug_13 : decode cL_ifDug 13 = .ok (.astore 4, 2) := by decide +kernel
theorem dL_ifDug_15 : decode cL_ifDug 15 = .ok (.iconst 1, 1) := by decide +kernel
theorem dL_ifDug_16 : decode cL_ifDug 16 = .ok (.ireturn, 1) := by decide +kernel
theorem dL_ifDug_17 : decode cL_ifDug 17 = .ok (.astore 4, 2) := by decide +kernel
theorem dL_ifDug_19 : decode cL_ifDug 19 = .ok (.iconst 2, 1) := by decide +kernel
theorem dL_ifDug_20 : decode cL_ifDug 20 = .ok (.ireturn, 1) := by decide +kernel
theorem dL_ifDug_21 : decode cL_ifDug 21 = .ok (.iconst 0, 1) := by decide +kernel
theorem dL_ifDug_22 : decode cL_ifDug 22 = .ok (.ireturn, 1) := by decide +kernel
set_option maxRecDepth 20000 in
theorem ggL_ifPassed_X6_ifPassed : GoodIn wsL_ifPassed wsX6_ifPassed := goodIn_ca (goodIn_r _ [6, 7, 8, 9, 5, 10, 11, 12, 13, 14, 15, 16, 17, 18, 19, 20, 21, 22, 23, 24, 25, 26, 27, 28, 29, 30, 31, 32, 33, 34, 35, 36, 37, 38, 39, 40, 41, 42, 43, 44, 45, 46, 47, 48, 49, 50, 51, 52, 53, 54, 55, 56, 57, 58, 59, 60, 61, 62, 63, 64, 65, 66, 67, 68, 69, 70, 71, 72, 73, 74, 75, 76, 77, 78, 79, 80, 81, 82, 83, 84, 85, 86, 87, 88, 89, 90, 91, 92, 93, 94, 95, 96, 97, 98, 99, 100, 101, 102, 103, 104, 105, 106, 107, 108, 109, 110, 111, 112, 113, 114, 115, 116, 117, 118, 119, 120, 121, 122, 123, 124, 125, 126, 127, 128, 129, 130, 131, 132, 133, 134, 135, 136, 137, 138, 139, 140, 141, 142, 143, 144, 145, 146, 147, 148, 149, 150, 151, 152, 153, 154, 155, 156, 157, 158, 159, 160, 161, 162, 163, 164, 165, 166, 167, 168, 169, 170, 171, 172, 173, 174, 175, 176, 177, 178, 179, 180, 181, 182, 183, 184, 185, 186, 187, 188, 189, 190, 191, 192, 193, 194, 195, 196] (by decide +kernel) (by decide +kernel)) (goodIn_sub (fun _ h => List.mem_cons_of_mem _ (List.mem_append_right _ h)) (by decide +kernel))
set_option maxRecDepth 20000 in
theorem gL_ifPassed_X6_ifPassed : GoodIn wsL_ifPassed (wsV RL 81 RX6 yX6_ifPassed wsX6_ifPassed) := goodIn_app (goodIn_of _ (by decide +kernel)) ggL_ifPassed_X6_ifPassed
theorem dL_ifPassed_0 : decode cL_ifPassed 0 = .ok (.aload_n 3, 1) := by decide +kernel
theorem dL_ifPassed_1 : decode cL_ifPassed 1 = .ok (.iconst 0, 1) := by decide +kernel
theorem dL_ifPassed_2 : decode cL_ifPassed 2 = .ok (.aload_n 0, 1) := by decide +kernel
theorem dL_ifPassed_3 : decode cL_ifPassed 3 = .ok (.iload_n 1, 1) := by decide +kernel
theorem dL_ifPassed_4 : decode cL_ifPassed 4 = .ok (.iload_n 2, 1) := by decide +kernel
theorem dL_ifPassed_5 : decode cL_ifPassed 5 = .ok (.invokevirtual 81, 3) := by decide +kernel
theorem dL_ifPassed_8 : decode cL_ifPassed 8 = .ok (.i2l, 1) := by decide +kernel
theorem dL_ifPassed_9 : decode cL_ifPassed 9 = .ok (.lastore, 1) := by decide +kernel
theorem dL_ifPassed_10 : decode cL_ifPassed 10 = .ok (.goto 7, 3) := by decide +kernel
theorem dL_ifPassed_13 : decode cL_ifPassed 13 = .ok (.astore 4, 2) := by decide +kernel
theorem dL_ifPassed_15 : decode cL_ifPassed 15 = .ok (.iconst 1, 1) := by decide +kernel
theorem dL_ifPassed_16 : decode cL_ifPassed 16 = .ok (.ireturn, 1) := by decide +kernel
theorem dL_ifPassed_17 : decode cL_ifPassed 17 = .ok (.iconst 0, 1) := by decide +kernel
theorem dL_ifPassed_18 : decode cL_ifPassed 18 = .ok (.ireturn, 1) := by decide +kernel
set_option maxRecDepth 20000 in
theorem ggL_law_X6_init : GoodIn wsL_law wsX6_init := goodIn_r _ [9, 10, 11, 12, 13, 14, 15, 16, 17, 18, 19, 20, 21, 22, 23, 24, 25, 26, 27, 28, 29, 30, 31, 32, 33, 34, 35, 36, 37, 38, 39, 40, 41, 42, 43, 44, 45, 46, 47, 48, 49, 50, 51, 52, 53, 54, 55, 56, 57, 58, 59, 60, 61, 62, 63, 64, 65, 66, 67, 68, 69, 70, 71, 72, 73, 74, 75, 76, 77, 78, 79, 1157, 1158, 1159, 1160, 1161, 1162, 1163, 1164, 1165, 1166, 1167, 1168, 1169, 1170, 1171, 1172, 1173, 1174, 1132, 1133, 1134, 1135, 1136, 1137, 1138, 1139, 1140, 1175, 1176, 1177, 1178, 1179, 1180, 1181, 1182, 1183, 1184, 1185, 1186, 1187, 1188, 1189] (by decide +kernel) (by decide +kernel)
set_option maxRecDepth 20000 in
theorem gL_law_X6_init : GoodIn wsL_law (wsX6_init) := ggL_law_X6_init
set_option maxRecDepth 20000 in
theorem ggL_law_X7_init : GoodIn wsL_law wsX7_init := goodIn_r _ [82, 83, 11, 12, 38, 84, 85, 86, 87, 88, 89, 45, 90, 91, 92, 1141, 1142, 1143, 1144, 1145, 1146, 1147, 1148, 1149, 1150, 1151, 1152, 1153, 1154, 1155, 1156] (by decide +kernel) (by decide +kernel)
set_option maxRecDepth 20000 in
theorem gL_law_X7_init : GoodIn wsL_law (wsX7_init) := ggL_law_X7_init
set_option maxRecDepth 20000 in
theorem ggL_law_L_mole : GoodIn wsL_law wsL_mole := goodIn_ca (goodIn_ca (goodIn_r _ [96, 97, 98, 99, 100, 101, 2, 102, 103, 104, 19, 105, 106, 107, 108, 109, 110, 111, 112, 113, 114, 115, 116, 117, 22, 118, 119, 120, 18, 121, 46, 122, 123, 124, 125, 47, 48, 49, 51, 126, 53, 54, 127, 128, 129, 130, 131, 132, 133, 134, 15, 135, 136, 137, 39, 138, 40, 139, 140, 141, 57, 142, 143, 63, 144, 145, 61, 146, 62, 147, 148, 149, 150, 151, 152, 153, 154, 155, 156, 157, 158, 159, 160, 161, 162, 55, 163, 164, 165, 166, 167, 168, 169, 170, 171, 172, 173, 174, 175, 176, 177, 178, 179, 180, 181, 182, 183, 184, 185, 186, 187, 188, 189, 190, 191, 192, 193, 194, 195, 196, 197, 198, 199, 200, 201, 202, 1132, 1133, 1134, 1135, 1136, 1137, 1138, 1139, 1140, 1161, 1162, 1163, 1164, 1165, 1166, 1167, 1168, 1169, 1170, 1171, 1172, 1173, 1174, 1157, 1158, 1159, 1160, 1183, 1184, 1185, 1186, 1187, 1188, 1189] (by decide +kernel) (by decide +kernel)) (goodIn_sub (fun _ h => List.mem_append_left _ (List.mem_append_left _ (List.mem_append_right _ h))) (by decide +kernel))) (goodIn_sub (fun _ h => List.mem_append_left _ (List.mem_append_right _ h)) (by decide +kernel))
set_option maxRecDepth 20000 in
theorem gL_law_L_mole : GoodIn wsL_law (va_wsS RL 88 yL_mole wsL_mole) := goodIn_app (goodIn_of _ (by decide +kernel)) ggL_law_L_mole
set_option maxRecDepth 20000 in
theorem ggL_law_X7_mole : GoodIn wsL_law wsX7_mole := goodIn_r _ [206, 84, 207, 208, 5, 209, 210, 211, 212, 213, 214, 215, 216, 217, 218, 219, 220, 221, 222, 87, 223, 224, 225, 226, 227, 228, 229, 230, 231, 232, 233, 234, 235, 236, 237, 238, 239, 240, 241, 242, 243, 244, 245, 246, 247, 248, 249, 250, 251, 252, 253, 254, 255, 256, 257, 258, 259, 260, 261, 262, 263, 264, 265, 1141, 1142, 1143, 1144, 1145, 1146, 1147, 1148, 1149, 1150, 1151, 1152, 1153, 1154, 1155, 1156] (by decide +kernel) (by decide +kernel)
set_option maxRecDepth 20000 in
theorem gL_law_X7_mole : GoodIn wsL_law (wsV RL 93 RX7 yX7_mole wsX7_mole) := goodIn_app (goodIn_of _ (by decide +kernel)) ggL_law_X7_mole
set_option maxRecDepth 20000 in
theorem ggL_law_X7_thrown : GoodIn wsL_law wsX7_thrown := goodIn_r _ [269, 217, 1141, 1142, 1143, 1144, 1145, 1146, 1147, 1148, 1149, 1150, 1151, 1152, 1153, 1154, 1155, 1156] (by decide +kernel) (by decide +kernel)
set_option maxRecDepth 20000 in
theorem gL_law_X7_thrown : GoodIn wsL_law (wsV RL 94 RX7 yX7_thrown wsX7_thrown) := goodIn_app (goodIn_of _ (by decide +kernel)) ggL_law_X7_thrown
set_option maxRecDepth 20000 in
theorem ggL_law_L_plan : GoodIn wsL_law wsL_plan := goodIn_ca (goodIn_ca (goodIn_ca (goodIn_r _ [272, 97, 273, 98, 274, 275, 276, 2, 277, 278, 279, 103, 104, 19, 280, 281, 282, 283, 284, 285, 111, 112, 105, 113, 114, 115, 116, 117, 22, 118, 119, 120, 18, 121, 46, 122, 123, 124, 125, 47, 48, 49, 51, 126, 53, 54, 127, 128, 129, 130, 131, 132, 133, 134, 15, 135, 136, 137, 39, 138, 40, 139, 140, 141, 57, 142, 143, 63, 144, 145, 61, 146, 62, 286, 287, 288, 289, 1132, 1133, 1134, 1135, 1136, 1137, 1138, 1139, 1140, 1161, 1162, 1163, 1164, 1165, 1166, 1167, 1168, 1169, 1170, 1171, 1172, 1173, 1174, 1183, 1184, 1185, 1186, 1187, 1188, 1189, 1157, 1158, 1159, 1160] (by decide +kernel) (by decide +kernel)) (goodIn_sub (fun _ h => List.mem_append_right _ h) (by decide +kernel))) (goodIn_sub (fun _ h => List.mem_append_left _ (List.mem_append_left _ (List.mem_append_right _ h))) (by decide +kernel))) (goodIn_sub (fun _ h => List.mem_append_left _ (List.mem_append_right _ h)) (by decide +kernel))
set_option maxRecDepth 20000 in
theorem gL_law_L_plan : GoodIn wsL_law (va_wsS RL 97 yL_plan wsL_plan) := goodIn_app (goodIn_of _ (by decide +kernel)) ggL_law_L_plan
set_option maxRecDepth 20000 in
theorem ggL_law_X7_plan : GoodIn wsL_law wsX7_plan := goodIn_r _ [293, 84, 294, 295, 296, 5, 297, 210, 211, 212, 255, 256, 257, 213, 214, 215, 216, 217, 218, 219, 220, 221, 222, 87, 298, 299, 300, 301, 1141, 1142, 1143, 1144, 1145, 1146, 1147, 1148, 1149, 1150, 1151, 1152, 1153, 1154, 1155, 1156] (by decide +kernel) (by decide +kernel)
set_option maxRecDepth 20000 in
theorem gL_law_X7_plan : GoodIn wsL_law (wsV RL 100 RX7 yX7_plan wsX7_plan) := goodIn_app (goodIn_of _ (by decide +kernel)) ggL_law_X7_plan
set_option maxRecDepth 20000 in
theorem ggL_law_L_rest : GoodIn wsL_law wsL_rest := goodIn_ca (goodIn_r _ [304, 97, 305, 306, 307, 2, 308, 19, 280, 281, 282, 283, 284, 285, 111, 112, 105, 113, 114, 115, 116, 117, 22, 118, 119, 120, 18, 121, 46, 122, 123, 124, 125, 47, 48, 49, 51, 126, 53, 54, 127, 128, 129, 130, 131, 132, 133, 134, 15, 135, 136, 137, 39, 138, 40, 139, 140, 141, 57, 142, 143, 63, 144, 145, 61, 146, 62, 1132, 1133, 1134, 1135, 1136, 1137, 1138, 1139, 1140, 1161, 1162, 1163, 1164, 1165, 1166, 1167, 1168, 1169, 1170, 1171, 1172, 1173, 1174, 1183, 1184, 1185, 1186, 1187, 1188, 1189, 1157, 1158, 1159, 1160] (by decide +kernel) (by decide +kernel)) (goodIn_sub (fun _ h => List.mem_append_left _ (List.mem_append_right _ h)) (by decide +kernel))
set_option maxRecDepth 20000 in
theorem gL_law_L_rest : GoodIn wsL_law (va_wsS RL 101 yL_rest wsL_rest) := goodIn_app (goodIn_of _ (by decide +kernel)) ggL_law_L_rest
set_option maxRecDepth 20000 in
theorem ggL_law_X7_rest : GoodIn wsL_law wsX7_rest := goodIn_r _ [312, 84, 294, 295, 296, 5, 297, 210, 211, 212, 213, 214, 215, 216, 217, 218, 219, 220, 221, 222, 87, 255, 256, 257, 313, 314, 315, 316, 1141, 1142, 1143, 1144, 1145, 1146, 1147, 1148, 1149, 1150, 1151, 1152, 1153, 1154, 1155, 1156] (by decide +kernel) (by decide +kernel)
set_option maxRecDepth 20000 in
theorem gL_law_X7_rest : GoodIn wsL_law (wsV RL 103 RX7 yX7_rest wsX7_rest) := goodIn_app (goodIn_of _ (by decide +kernel)) ggL_law_X7_rest
set_option maxRecDepth 20000 in
theorem ggL_law_L_pass : GoodIn wsL_law wsL_pass := goodIn_ca (goodIn_r _ [319, 273, 320, 321, 322, 2, 323, 19, 324, 325, 326, 327, 328, 278, 279, 113, 114, 115, 116, 117, 22, 118, 119, 120, 18, 121, 46, 122, 123, 124, 125, 47, 48, 49, 51, 126, 53, 54, 127, 128, 129, 130, 131, 132, 133, 134, 15, 135, 136, 137, 39, 138, 40, 139, 140, 141, 57, 142, 143, 63, 144, 145, 61, 146, 62, 329, 330, 331, 332, 333, 334, 335, 336, 151, 337, 152, 338, 339, 340, 341, 342, 343, 344, 345, 346, 347, 348, 349, 350, 351, 352, 353, 354, 355, 356, 357, 358, 359, 360, 361, 362, 363, 364, 158, 191, 192, 193, 194, 183, 184, 185, 186, 199, 200, 201, 202, 154, 155, 156, 157, 159, 160, 161, 162, 55, 163, 164, 165, 166, 167, 168, 169, 170, 171, 172, 173, 174, 175, 176, 177, 178, 179, 180, 181, 182, 187, 188, 189, 190, 195, 196, 197, 198, 1132, 1133, 1134, 1135, 1136, 1137, 1138, 1139, 1140, 1161, 1162, 1163, 1164, 1165, 1166, 1167, 1168, 1169, 1170, 1171, 1172, 1173, 1174, 1157, 1158, 1159, 1160, 1183, 1184, 1185, 1186, 1187, 1188, 1189] (by decide +kernel) (by decide +kernel)) (goodIn_sub (fun _ h => List.mem_append_right _ h) (by decide +kernel))
set_option maxRecDepth 20000 in
theorem gL_law_L_pass : GoodIn wsL_law (va_wsS RL 104 yL_pass wsL_pass) := goodIn_app (goodIn_of _ (by decide +kernel)) ggL_law_L_pass
set_option maxRecDepth 20000 in
theorem ggL_law_X7_pass : GoodIn wsL_law wsX7_pass := goodIn_r _ [368, 210, 211, 5, 212, 213, 214, 215, 216, 217, 218, 219, 220, 221, 222, 87, 84, 369, 370, 371, 372, 373, 374, 375, 376, 377, 378, 379, 380, 255, 256, 257, 381, 382, 383, 384, 385, 386, 313, 314, 315, 316, 387, 388, 389, 390, 391, 392, 393, 394, 395, 396, 397, 398, 223, 224, 225, 226, 399, 400, 401, 402, 251, 252, 253, 254, 258, 259, 260, 261, 262, 263, 264, 265, 227, 228, 229, 230, 231, 232, 233, 234, 235, 236, 237, 238, 239, 240, 241, 242, 243, 244, 245, 246, 247, 248, 249, 250, 1141, 1142, 1143, 1144, 1145, 1146, 1147, 1148, 1149, 1150, 1151, 1152, 1153, 1154, 1155, 1156] (by decide +kernel) (by decide +kernel)
set_option maxRecDepth 20000 in
theorem gL_law_X7_pass : GoodIn wsL_law (wsV RL 106 RX7 yX7_pass wsX7_pass) := goodIn_app (goodIn_of _ (by decide +kernel)) ggL_law_X7_pass
set_option maxRecDepth 20000 in
theorem ggL_law_L_root : GoodIn wsL_law wsL_root := goodIn_ca (goodIn_ca (goodIn_r _ [405, 97, 273, 406, 407, 408, 2, 409, 278, 279, 19, 106, 107, 108, 109, 110, 111, 112, 113, 114, 115, 116, 117, 22, 118, 119, 120, 18, 121, 46, 122, 123, 124, 125, 47, 48, 49, 51, 126, 53, 54, 127, 128, 129, 130, 131, 132, 133, 134, 15, 135, 136, 137, 39, 138, 40, 139, 140, 141, 57, 142, 143, 63, 144, 145, 61, 146, 62, 1132, 1133, 1134, 1135, 1136, 1137, 1138, 1139, 1140, 1161, 1162, 1163, 1164, 1165, 1166, 1167, 1168, 1169, 1170, 1171, 1172, 1173, 1174, 1157, 1158, 1159, 1160, 1183, 1184, 1185, 1186, 1187, 1188, 1189] (by decide +kernel) (by decide +kernel)) (goodIn_sub (fun _ h => List.mem_append_right _ h) (by decide +kernel))) (goodIn_sub (fun _ h => List.mem_append_left _ (List.mem_append_right _ h)) (by decide +kernel))
set_option maxRecDepth 20000 in
theorem gL_law_L_root : GoodIn wsL_law (va_wsS RL 107 yL_root wsL_root) := goodIn_app (goodIn_of _ (by decide +kernel)) ggL_law_L_root
set_option maxRecDepth 20000 in
theorem ggL_law_X7_root : GoodIn wsL_law wsX7_root := goodIn_r _ [413, 207, 208, 5, 209, 210, 211, 212, 213, 214, 215, 216, 217, 414, 415, 416, 417, 84, 218, 219, 220, 221, 222, 87, 1141, 1142, 1143, 1144, 1145, 1146, 1147, 1148, 1149, 1150, 1151, 1152, 1153, 1154, 1155, 1156] (by decide +kernel) (by decide +kernel)
set_option maxRecDepth 20000 in
theorem gL_law_X7_root : GoodIn wsL_law (wsV RL 109 RX7 yX7_root wsX7_root) := goodIn_app (goodIn_of _ (by decide +kernel)) ggL_law_X7_root
set_option maxRecDepth 20000 in
theorem ggL_law_L_trap : GoodIn wsL_law wsL_trap := goodIn_ca (goodIn_ca (goodIn_ca (goodIn_r _ [420, 97, 273, 98, 421, 422, 423, 2, 424, 278, 279, 103, 104, 19, 425, 107, 108, 109, 110, 111, 112, 113, 114, 115, 116, 117, 22, 118, 119, 120, 18, 121, 46, 122, 123, 124, 125, 47, 48, 49, 51, 126, 53, 54, 127, 128, 129, 130, 131, 132, 133, 134, 15, 135, 136, 137, 39, 138, 40, 139, 140, 141, 57, 142, 143, 63, 144, 145, 61, 146, 62, 426, 427, 428, 429, 1132, 1133, 1134, 1135, 1136, 1137, 1138, 1139, 1140, 1161, 1162, 1163, 1164, 1165, 1166, 1167, 1168, 1169, 1170, 1171, 1172, 1173, 1174, 1157, 1158, 1159, 1160, 1183, 1184, 1185, 1186, 1187, 1188, 1189] (by decide +kernel) (by decide +kernel)) (goodIn_sub (fun _ h => List.mem_append_right _ h) (by decide +kernel))) (goodIn_sub (fun _ h => List.mem_append_left _ (List.mem_append_left _ (List.mem_append_right _ h))) (by decide +kernel))) (goodIn_sub (fun _ h => List.mem_append_left _ (List.mem_append_right _ h)) (by decide +kernel))
set_option maxRecDepth 20000 in
theorem gL_law_L_trap : GoodIn wsL_law (va_wsS RL 110 yL_trap wsL_trap) := goodIn_app (goodIn_of _ (by decide +kernel)) ggL_law_L_trap
set_option maxRecDepth 20000 in
theorem ggL_law_X7_trap : GoodIn wsL_law wsX7_trap := goodIn_r _ [433, 84, 207, 208, 5, 209, 210, 211, 212, 213, 214, 215, 216, 217, 414, 415, 416, 417, 218, 219, 220, 221, 222, 87, 434, 435, 436, 437, 1141, 1142, 1143, 1144, 1145, 1146, 1147, 1148, 1149, 1150, 1151, 1152, 1153, 1154, 1155, 1156] (by decide +kernel) (by decide +kernel)
set_option maxRecDepth 20000 in
theorem gL_law_X7_trap : GoodIn wsL_law (wsV RL 112 RX7 yX7_trap wsX7_trap) := goodIn_app (goodIn_of _ (by decide +kernel)) ggL_law_X7_trap
set_option maxRecDepth 20000 in
theorem ggL_law_L_dig : GoodIn wsL_law wsL_dig := goodIn_ca (goodIn_r _ [440, 97, 441, 442, 443, 2, 444, 19, 107, 108, 109, 110, 111, 112, 113, 114, 115, 116, 117, 22, 118, 119, 120, 18, 121, 46, 122, 123, 124, 125, 47, 48, 49, 51, 126, 53, 54, 127, 128, 129, 130, 131, 132, 133, 134, 15, 135, 136, 137, 39, 138, 40, 139, 140, 141, 57, 142, 143, 63, 144, 145, 61, 146, 62, 445, 446, 447, 448, 338, 339, 340, 341, 357, 358, 359, 360, 449, 450, 451, 452, 163, 55, 164, 165, 166, 167, 168, 169, 170, 171, 172, 173, 174, 175, 176, 177, 178, 179, 180, 181, 182, 183, 184, 185, 186, 453, 454, 455, 456, 457, 152, 191, 192, 193, 194, 199, 200, 201, 202, 154, 155, 156, 157, 158, 159, 160, 161, 162, 187, 188, 189, 190, 195, 196, 197, 198, 1132, 1133, 1134, 1135, 1136, 1137, 1138, 1139, 1140, 1161, 1162, 1163, 1164, 1165, 1166, 1167, 1168, 1169, 1170, 1171, 1172, 1173, 1174, 1157, 1158, 1159, 1160, 1183, 1184, 1185, 1186, 1187, 1188, 1189] (by decide +kernel) (by decide +kernel)) (goodIn_sub (fun _ h => List.mem_append_left _ (List.mem_append_right _ h)) (by decide +kernel))
set_option maxRecDepth 20000 in
theorem gL_law_L_dig : GoodIn wsL_law (va_wsS RL 113 yL_dig wsL_dig) := goodIn_app (goodIn_of _ (by decide +kernel)) ggL_law_L_dig
set_option maxRecDepth 20000 in
theorem ggL_law_X7_dig : GoodIn wsL_law wsX7_dig := goodIn_r _ [461, 207, 208, 5, 209, 210, 211, 212, 213, 214, 215, 216, 217, 218, 219, 220, 221, 222, 87, 84, 462, 463, 464, 465, 255, 256, 257, 395, 396, 397, 398, 466, 467, 468, 469, 235, 236, 237, 238, 239, 240, 241, 242, 243, 244, 245, 246, 247, 248, 249, 250, 251, 252, 253, 254, 223, 224, 225, 226, 227, 228, 229, 230, 231, 232, 233, 234, 258, 259, 260, 261, 262, 263, 264, 265, 1141, 1142, 1143, 1144, 1145, 1146, 1147, 1148, 1149, 1150, 1151, 1152, 1153, 1154, 1155, 1156] (by decide +kernel) (by decide +kernel)
set_option maxRecDepth 20000 in
theorem gL_law_X7_dig : GoodIn wsL_law (wsV RL 115 RX7 yX7_dig wsX7_dig) := goodIn_app (goodIn_of _ (by decide +kernel)) ggL_law_X7_dig
set_option maxRecDepth 20000 in
theorem ggL_law_L_rake : GoodIn wsL_law wsL_rake := goodIn_ca (goodIn_ca (goodIn_r _ [472, 97, 98, 473, 474, 475, 2, 476, 103, 104, 19, 477, 107, 108, 109, 110, 111, 112, 478, 479, 480, 18, 481, 126, 53, 158, 113, 114, 115, 116, 117, 22, 118, 119, 120, 121, 46, 122, 123, 124, 125, 47, 48, 49, 51, 54, 127, 128, 129, 130, 131, 132, 133, 134, 15, 135, 136, 137, 39, 138, 40, 139, 140, 141, 57, 142, 143, 63, 144, 145, 61, 146, 62, 482, 483, 484, 485, 163, 486, 487, 488, 489, 490, 491, 492, 493, 494, 495, 496, 497, 498, 499, 500, 501, 173, 174, 175, 176, 177, 178, 179, 180, 502, 503, 504, 505, 506, 507, 508, 509, 510, 511, 512, 513, 55, 164, 165, 166, 167, 168, 514, 515, 516, 517, 518, 519, 520, 521, 522, 523, 524, 525, 526, 527, 528, 529, 530, 531, 532, 181, 182, 183, 184, 185, 186, 449, 450, 451, 452, 169, 170, 171, 172, 1132, 1133, 1134, 1135, 1136, 1137, 1138, 1139, 1140, 1161, 1162, 1163, 1164, 1165, 1166, 1167, 1168, 1169, 1170, 1171, 1172, 1173, 1174, 1183, 1184, 1185, 1186, 1187, 1188, 1189, 1157, 1158, 1159, 1160] (by decide +kernel) (by decide +kernel)) (goodIn_sub (fun _ h => List.mem_append_left _ (List.mem_append_left _ (List.mem_append_right _ h))) (by decide +kernel))) (goodIn_sub (fun _ h => List.mem_append_left _ (List.mem_append_right _ h)) (by decide +kernel))
set_option maxRecDepth 20000 in
theorem gL_law_L_rake : GoodIn wsL_law (va_wsS RL 116 yL_rake wsL_rake) := goodIn_app (goodIn_of _ (by decide +kernel)) ggL_law_L_rake
set_option maxRecDepth 20000 in
theorem ggL_law_X7_rake : GoodIn wsL_law wsX7_rake := goodIn_r _ [536, 84, 207, 208, 5, 209, 210, 211, 212, 223, 224, 225, 226, 537, 538, 539, 540, 255, 256, 257, 213, 214, 215, 216, 217, 218, 219, 220, 221, 222, 87, 541, 542, 543, 544, 545, 546, 547, 548, 243, 244, 245, 246, 235, 236, 237, 238, 549, 550, 551, 552, 553, 554, 555, 556, 557, 558, 559, 560, 89, 247, 248, 249, 250, 466, 467, 468, 469, 239, 240, 241, 242, 1141, 1142, 1143, 1144, 1145, 1146, 1147, 1148, 1149, 1150, 1151, 1152, 1153, 1154, 1155, 1156] (by decide +kernel) (by decide +kernel)
set_option maxRecDepth 20000 in
theorem gL_law_X7_rake : GoodIn wsL_law (wsV RL 118 RX7 yX7_rake wsX7_rake) := goodIn_app (goodIn_of _ (by decide +kernel)) ggL_law_X7_rake
set_option maxRecDepth 20000 in
theorem ggL_law_L_set : GoodIn wsL_law wsL_set := goodIn_ca (goodIn_r _ [563, 273, 564, 565, 566, 2, 567, 278, 279, 19, 568, 113, 114, 115, 116, 117, 22, 118, 119, 120, 18, 121, 46, 122, 123, 124, 125, 47, 48, 49, 51, 126, 53, 54, 127, 128, 129, 130, 131, 132, 133, 134, 15, 135, 136, 137, 39, 138, 40, 139, 140, 141, 57, 142, 143, 63, 144, 145, 61, 146, 62, 569, 570, 571, 572, 152, 573, 574, 575, 576, 1132, 1133, 1134, 1135, 1136, 1137, 1138, 1139, 1140, 1161, 1162, 1163, 1164, 1165, 1166, 1167, 1168, 1169, 1170, 1171, 1172, 1173, 1174, 1157, 1158, 1159, 1160, 1183, 1184, 1185, 1186, 1187, 1188, 1189] (by decide +kernel) (by decide +kernel)) (goodIn_sub (fun _ h => List.mem_append_right _ h) (by decide +kernel))
set_option maxRecDepth 20000 in
theorem gL_law_L_set : GoodIn wsL_law (va_wsS RL 119 yL_set wsL_set) := goodIn_app (goodIn_of _ (by decide +kernel)) ggL_law_L_set
set_option maxRecDepth 20000 in
theorem ggL_law_X7_set : GoodIn wsL_law wsX7_set := goodIn_r _ [580, 84, 210, 211, 5, 212, 213, 214, 215, 216, 217, 414, 415, 416, 417, 218, 219, 220, 221, 222, 87, 255, 256, 257, 1141, 1142, 1143, 1144, 1145, 1146, 1147, 1148, 1149, 1150, 1151, 1152, 1153, 1154, 1155, 1156] (by decide +kernel) (by decide +kernel)
set_option maxRecDepth 20000 in
theorem gL_law_X7_set : GoodIn wsL_law (wsV RL 121 RX7 yX7_set wsX7_set) := goodIn_app (goodIn_of _ (by decide +kernel)) ggL_law_X7_set
set_option maxRecDepth 20000 in
theorem ggL_law_L_append : GoodIn wsL_law wsL_append := goodIn_ca (goodIn_ca (goodIn_r _ [583, 273, 98, 584, 585, 586, 2, 587, 278, 279, 103, 104, 26, 588, 589, 590, 591, 25, 592, 593, 67, 1132, 1133, 1134, 1135, 1136, 1137, 1138, 1139, 1140, 1175, 1176] (by decide +kernel) (by decide +kernel)) (goodIn_sub (fun _ h => List.mem_append_right _ h) (by decide +kernel))) (goodIn_sub (fun _ h => List.mem_append_left _ (List.mem_append_left _ (List.mem_append_right _ h))) (by decide +kernel))
set_option maxRecDepth 20000 in
theorem gL_law_L_append : GoodIn wsL_law (va_wsS RL 122 yL_append wsL_append) := goodIn_app (goodIn_of _ (by decide +kernel)) ggL_law_L_append
set_option maxRecDepth 20000 in
theorem ggL_law_X7_append : GoodIn wsL_law wsX7_append := goodIn_r _ [597, 598, 88, 210, 211, 5, 212, 213, 214, 215, 216, 217, 1141, 1142, 1143, 1144, 1145, 1146, 1147, 1148, 1149, 1150, 1151, 1152, 1153, 1154, 1155, 1156] (by decide +kernel) (by decide +kernel)
set_option maxRecDepth 20000 in
theorem gL_law_X7_append : GoodIn wsL_law (wsV RL 124 RX7 yX7_append wsX7_append) := goodIn_app (goodIn_of _ (by decide +kernel)) ggL_law_X7_append
set_option maxRecDepth 20000 in
theorem ggL_law_X6_clearBuffer : GoodIn wsL_law wsX6_clearBuffer := goodIn_r _ [602, 26, 588, 1132, 1133, 1134, 1135, 1136, 1137, 1138, 1139, 1140, 1175, 1176] (by decide +kernel) (by decide +kernel)
set_option maxRecDepth 20000 in
theorem gL_law_X6_clearBuffer : GoodIn wsL_law (wsV RL 125 RX6 yX6_clearBuffer wsX6_clearBuffer) := goodIn_app (goodIn_of _ (by decide +kernel)) ggL_law_X6_clearBuffer
set_option maxRecDepth 20000 in
theorem ggL_law_X7_clearBuffer : GoodIn wsL_law wsX7_clearBuffer := goodIn_r _ [606, 217, 598, 1141, 1142, 1143, 1144, 1145, 1146, 1147, 1148, 1149, 1150, 1151, 1152, 1153, 1154, 1155, 1156] (by decide +kernel) (by decide +kernel)
set_option maxRecDepth 20000 in
theorem gL_law_X7_clearBuffer : GoodIn wsL_law (wsV RL 128 RX7 yX7_clearBuffer wsX7_clearBuffer) := goodIn_app (goodIn_of _ (by decide +kernel)) ggL_law_X7_clearBuffer
set_option maxRecDepth 20000 in
theorem ggL_law_X6_firstError : GoodIn wsL_law wsX6_firstError := goodIn_r _ [610, 26, 611, 612, 613, 25, 614, 593, 67, 615, 616, 617, 618, 619, 620, 1132, 1133, 1134, 1135, 1136, 1137, 1138, 1139, 1140, 1175, 1176] (by decide +kernel) (by decide +kernel)
set_option maxRecDepth 20000 in
theorem gL_law_X6_firstError : GoodIn wsL_law (wsV RL 129 RX6 yX6_firstError wsX6_firstError) := goodIn_app (goodIn_of _ (by decide +kernel)) ggL_law_X6_firstError
set_option maxRecDepth 20000 in
theorem ggL_law_X7_firstError : GoodIn wsL_law wsX7_firstError := goodIn_r _ [624, 217, 625, 626, 598, 627, 628, 629, 5, 630, 88, 631, 632, 633, 634, 210, 211, 212, 635, 636, 637, 638, 639, 640, 641, 298, 299, 300, 301, 84, 294, 295, 296, 297, 255, 256, 257, 1141, 1142, 1143, 1144, 1145, 1146, 1147, 1148, 1149, 1150, 1151, 1152, 1153, 1154, 1155, 1156] (by decide +kernel) (by decide +kernel)
set_option maxRecDepth 20000 in
theorem gL_law_X7_firstError : GoodIn wsL_law (wsV RL 132 RX7 yX7_firstError wsX7_firstError) := goodIn_app (goodIn_of _ (by decide +kernel)) ggL_law_X7_firstError
set_option maxRecDepth 20000 in
theorem ggL_law_L_plans : GoodIn wsL_law wsL_plans := goodIn_ca (goodIn_r _ [644, 273, 645, 646, 647, 2, 648, 278, 279, 26, 588, 649, 19, 280, 650, 651, 652, 25, 653, 593, 67, 615, 616, 617, 618, 619, 620, 113, 114, 115, 116, 117, 22, 118, 119, 120, 18, 121, 46, 122, 123, 124, 125, 47, 48, 49, 51, 126, 53, 54, 127, 128, 129, 130, 131, 132, 133, 134, 15, 135, 136, 137, 39, 138, 40, 139, 140, 141, 57, 142, 143, 63, 144, 145, 61, 146, 62, 654, 655, 656, 657, 658, 151, 286, 287, 288, 289, 1132, 1133, 1134, 1135, 1136, 1137, 1138, 1139, 1140, 1175, 1176, 1161, 1162, 1163, 1164, 1165, 1166, 1167, 1168, 1169, 1170, 1171, 1172, 1173, 1174, 1157, 1158, 1159, 1160, 1183, 1184, 1185, 1186, 1187, 1188, 1189] (by decide +kernel) (by decide +kernel)) (goodIn_sub (fun _ h => List.mem_append_right _ h) (by decide +kernel))
set_option maxRecDepth 20000 in
theorem gL_law_L_plans : GoodIn wsL_law (va_wsS RL 133 yL_plans wsL_plans) := goodIn_app (goodIn_of _ (by decide +kernel)) ggL_law_L_plans
set_option maxRecDepth 20000 in
theorem ggL_law_X7_plans : GoodIn wsL_law wsX7_plans := goodIn_r _ [662, 625, 598, 627, 628, 629, 5, 630, 626, 88, 631, 632, 633, 634, 210, 211, 212, 635, 636, 637, 638, 639, 640, 641, 298, 299, 300, 301, 84, 294, 295, 296, 297, 255, 256, 257, 213, 214, 215, 216, 217, 218, 219, 220, 221, 222, 87, 1141, 1142, 1143, 1144, 1145, 1146, 1147, 1148, 1149, 1150, 1151, 1152, 1153, 1154, 1155, 1156] (by decide +kernel) (by decide +kernel)
set_option maxRecDepth 20000 in
theorem gL_law_X7_plans : GoodIn wsL_law (wsV RL 136 RX7 yX7_plans wsX7_plans) := goodIn_app (goodIn_of _ (by decide +kernel)) ggL_law_X7_plans
set_option maxRecDepth 20000 in
theorem ggL_law_L_undo : GoodIn wsL_law wsL_undo := goodIn_ca (goodIn_r _ [665, 98, 666, 667, 668, 2, 669, 103, 104, 117, 19, 22, 118, 119, 120, 18, 121, 46, 122, 123, 124, 125, 47, 48, 49, 51, 126, 53, 54, 127, 128, 129, 130, 131, 132, 133, 134, 15, 135, 136, 137, 39, 138, 40, 139, 140, 141, 57, 142, 143, 63, 144, 145, 61, 146, 62, 1132, 1133, 1134, 1135, 1136, 1137, 1138, 1139, 1140, 1161, 1162, 1163, 1164, 1165, 1166, 1167, 1168, 1169, 1170, 1171, 1172, 1173, 1174, 1157, 1158, 1159, 1160, 1183, 1184, 1185, 1186, 1187, 1188, 1189] (by decide +kernel) (by decide +kernel)) (goodIn_sub (fun _ h => List.mem_append_left _ (List.mem_append_left _ (List.mem_append_right _ h))) (by decide +kernel))
set_option maxRecDepth 20000 in
theorem gL_law_L_undo : GoodIn wsL_law (va_wsS RL 137 yL_undo wsL_undo) := goodIn_app (goodIn_of _ (by decide +kernel)) ggL_law_L_undo
set_option maxRecDepth 20000 in
theorem ggL_law_X7_undo : GoodIn wsL_law wsX7_undo := goodIn_r _ [673, 222, 84, 87, 213, 214, 215, 5, 216, 217, 1141, 1142, 1143, 1144, 1145, 1146, 1147, 1148, 1149, 1150, 1151, 1152, 1153, 1154, 1155, 1156] (by decide +kernel) (by decide +kernel)
set_option maxRecDepth 20000 in
theorem gL_law_X7_undo : GoodIn wsL_law (wsV RL 139 RX7 yX7_undo wsX7_undo) := goodIn_app (goodIn_of _ (by decide +kernel)) ggL_law_X7_undo
set_option maxRecDepth 20000 in
theorem ggL_law_X6_keep : GoodIn wsL_law wsX6_keep := goodIn_r _ [677, 20, 19, 678, 679, 680, 118, 119, 120, 18, 121, 46, 122, 123, 124, 125, 47, 48, 49, 51, 126, 53, 54, 127, 128, 129, 130, 131, 132, 133, 134, 15, 135, 136, 137, 39, 138, 40, 139, 140, 141, 57, 142, 143, 63, 144, 145, 61, 146, 62, 1132, 1133, 1134, 1135, 1136, 1137, 1138, 1139, 1140, 1161, 1162, 1163, 1164, 1165, 1166, 1167, 1168, 1169, 1170, 1171, 1172, 1173, 1174, 1157, 1158, 1159, 1160, 1183, 1184, 1185, 1186, 1187, 1188, 1189] (by decide +kernel) (by decide +kernel)
set_option maxRecDepth 20000 in
theorem gL_law_X6_keep : GoodIn wsL_law (wsV RL 140 RX6 yX6_keep wsX6_keep) := goodIn_app (goodIn_of _ (by decide +kernel)) ggL_law_X6_keep
set_option maxRecDepth 20000 in
theorem ggL_law_X7_keep : GoodIn wsL_law wsX7_keep := goodIn_r _ [684, 217, 86, 84, 685, 686, 687, 688, 5, 689, 1141, 1142, 1143, 1144, 1145, 1146, 1147, 1148, 1149, 1150, 1151, 1152, 1153, 1154, 1155, 1156] (by decide +kernel) (by decide +kernel)
set_option maxRecDepth 20000 in
theorem gL_law_X7_keep : GoodIn wsL_law (wsV RL 143 RX7 yX7_keep wsX7_keep) := goodIn_app (goodIn_of _ (by decide +kernel)) ggL_law_X7_keep
set_option maxRecDepth 20000 in
theorem ggL_law_L_restore : GoodIn wsL_law wsL_restore := goodIn_ca (goodIn_r _ [692, 98, 693, 694, 695, 2, 696, 103, 104, 678, 19, 20, 679, 680, 113, 114, 115, 116, 117, 22, 118, 119, 120, 18, 121, 46, 122, 123, 124, 125, 47, 48, 49, 51, 126, 53, 54, 127, 128, 129, 130, 131, 132, 133, 134, 15, 135, 136, 137, 39, 138, 40, 139, 140, 141, 57, 142, 143, 63, 144, 145, 61, 146, 62, 1132, 1133, 1134, 1135, 1136, 1137, 1138, 1139, 1140, 1161, 1162, 1163, 1164, 1165, 1166, 1167, 1168, 1169, 1170, 1171, 1172, 1173, 1174, 1157, 1158, 1159, 1160, 1183, 1184, 1185, 1186, 1187, 1188, 1189] (by decide +kernel) (by decide +kernel)) (goodIn_sub (fun _ h => List.mem_append_left _ (List.mem_append_left _ (List.mem_append_right _ h))) (by decide +kernel))
set_option maxRecDepth 20000 in
theorem gL_law_L_restore : GoodIn wsL_law (va_wsS RL 144 yL_restore wsL_restore) := goodIn_app (goodIn_of _ (by decide +kernel)) ggL_law_L_restore
set_option maxRecDepth 20000 in
theorem ggL_law_X7_restore : GoodIn wsL_law wsX7_restore := goodIn_r _ [700, 685, 84, 86, 213, 214, 215, 5, 216, 217, 218, 219, 220, 221, 222, 87, 686, 687, 688, 689, 1141, 1142, 1143, 1144, 1145, 1146, 1147, 1148, 1149, 1150, 1151, 1152, 1153, 1154, 1155, 1156] (by decide +kernel) (by decide +kernel)
set_option maxRecDepth 20000 in
theorem gL_law_X7_restore : GoodIn wsL_law (wsV RL 146 RX7 yX7_restore wsX7_restore) := goodIn_app (goodIn_of _ (by decide +kernel)) ggL_law_X7_restore
set_option maxRecDepth 20000 in
theorem ggL_law_L_tuft : GoodIn wsL_law wsL_tuft := goodIn_ca (goodIn_ca (goodIn_r _ [703, 97, 273, 704, 705, 706, 2, 707, 30, 19, 107, 108, 109, 110, 111, 112, 708, 709, 710, 711, 278, 279, 712, 713, 714, 29, 715, 71, 72, 74, 716, 717, 718, 719, 720, 721, 722, 723, 724, 725, 174, 175, 15, 176, 137, 40, 726, 178, 179, 180, 727, 728, 729, 730, 731, 732, 733, 734, 735, 736, 73, 737, 738, 739, 740, 741, 742, 743, 744, 745, 746, 747, 748, 749, 346, 347, 348, 750, 751, 752, 753, 754, 755, 756, 757, 477, 106, 425, 758, 759, 760, 761, 762, 763, 764, 765, 18, 766, 126, 53, 338, 339, 340, 57, 341, 62, 63, 1132, 1133, 1134, 1135, 1136, 1137, 1138, 1139, 1140, 1177, 1178, 1179, 1180, 1161, 1162, 1163, 1164, 1165, 1166, 1167, 1168, 1169, 1170, 1171, 1172, 1173, 1174, 1157, 1158, 1159, 1160, 1183, 1184, 1185, 1186, 1187, 1188, 1189] (by decide +kernel) (by decide +kernel)) (goodIn_sub (fun _ h => List.mem_append_left _ (List.mem_append_right _ h)) (by decide +kernel))) (goodIn_sub (fun _ h => List.mem_append_right _ h) (by decide +kernel))
set_option maxRecDepth 20000 in
theorem gL_law_L_tuft : GoodIn wsL_law (va_wsS RL 147 yL_tuft wsL_tuft) := goodIn_app (goodIn_of _ (by decide +kernel)) ggL_law_L_tuft
set_option maxRecDepth 20000 in
theorem ggL_law_X7_tuft : GoodIn wsL_law wsX7_tuft := goodIn_r _ [770, 207, 208, 5, 209, 210, 211, 212, 213, 214, 215, 216, 217, 771, 772, 773, 774, 84, 90, 91, 775, 776, 777, 778, 243, 244, 245, 246, 255, 256, 257, 779, 780, 781, 782, 783, 784, 785, 786, 787, 788, 789, 790, 791, 792, 793, 794, 795, 796, 797, 798, 799, 800, 801, 235, 236, 237, 238, 239, 240, 241, 242, 802, 803, 804, 805, 1141, 1142, 1143, 1144, 1145, 1146, 1147, 1148, 1149, 1150, 1151, 1152, 1153, 1154, 1155, 1156] (by decide +kernel) (by decide +kernel)
set_option maxRecDepth 20000 in
theorem gL_law_X7_tuft : GoodIn wsL_law (wsV RL 149 RX7 yX7_tuft wsX7_tuft) := goodIn_app (goodIn_of _ (by decide +kernel)) ggL_law_X7_tuft
set_option maxRecDepth 20000 in
theorem ggL_law_L_moleOf : GoodIn wsL_law wsL_moleOf := goodIn_ca (goodIn_ca (goodIn_r _ [808, 97, 273, 809, 810, 811, 2, 812, 19, 280, 282, 283, 284, 285, 111, 112, 105, 708, 709, 710, 711, 278, 279, 813, 814, 815, 57, 816, 144, 143, 61, 62, 63, 145, 817, 339, 340, 341, 1132, 1133, 1134, 1135, 1136, 1137, 1138, 1139, 1140, 1161, 1162, 1163, 1164, 1165, 1166, 1167, 1168, 1169, 1170, 1171, 1172, 1173, 1174, 1183, 1184, 1185, 1186, 1187, 1188, 1189] (by decide +kernel) (by decide +kernel)) (goodIn_sub (fun _ h => List.mem_append_left _ (List.mem_append_right _ h)) (by decide +kernel))) (goodIn_sub (fun _ h => List.mem_append_right _ h) (by decide +kernel))
set_option maxRecDepth 20000 in
theorem gL_law_L_moleOf : GoodIn wsL_law (va_wsS RL 150 yL_moleOf wsL_moleOf) := goodIn_app (goodIn_of _ (by decide +kernel)) ggL_law_L_moleOf
set_option maxRecDepth 20000 in
theorem ggL_law_X7_moleOf : GoodIn wsL_law wsX7_moleOf := goodIn_r _ [821, 294, 295, 296, 5, 297, 84, 210, 211, 212, 213, 214, 215, 216, 217, 822, 823, 824, 825, 255, 256, 257, 1141, 1142, 1143, 1144, 1145, 1146, 1147, 1148, 1149, 1150, 1151, 1152, 1153, 1154, 1155, 1156] (by decide +kernel) (by decide +kernel)
set_option maxRecDepth 20000 in
theorem gL_law_X7_moleOf : GoodIn wsL_law (wsV RL 152 RX7 yX7_moleOf wsX7_moleOf) := goodIn_app (goodIn_of _ (by decide +kernel)) ggL_law_X7_moleOf
set_option maxRecDepth 20000 in
theorem ggL_law_L_tunnel : GoodIn wsL_law wsL_tunnel := goodIn_ca (goodIn_ca (goodIn_r _ [828, 97, 273, 829, 830, 831, 2, 832, 19, 679, 833, 834, 835, 836, 111, 112, 680, 708, 709, 710, 711, 278, 279, 837, 519, 520, 15, 521, 494, 495, 496, 497, 498, 499, 500, 501, 39, 173, 174, 175, 176, 137, 40, 177, 178, 179, 180, 502, 503, 504, 505, 1132, 1133, 1134, 1135, 1136, 1137, 1138, 1139, 1140, 1161, 1162, 1163, 1164, 1165, 1166, 1167, 1168, 1169, 1170, 1171, 1172, 1173, 1174, 1157, 1158, 1159, 1160] (by decide +kernel) (by decide +kernel)) (goodIn_sub (fun _ h => List.mem_append_left _ (List.mem_append_right _ h)) (by decide +kernel))) (goodIn_sub (fun _ h => List.mem_append_right _ h) (by decide +kernel))
set_option maxRecDepth 20000 in
theorem gL_law_L_tunnel : GoodIn wsL_law (va_wsS RL 153 yL_tunnel wsL_tunnel) := goodIn_app (goodIn_of _ (by decide +kernel)) ggL_law_L_tunnel
set_option maxRecDepth 20000 in
theorem ggL_law_X7_tunnel : GoodIn wsL_law wsX7_tunnel := goodIn_r _ [841, 842, 843, 844, 5, 845, 686, 687, 688, 689, 84, 210, 211, 212, 213, 214, 215, 216, 217, 846, 847, 848, 849, 850, 851, 852, 853, 235, 236, 237, 238, 243, 244, 245, 246, 1141, 1142, 1143, 1144, 1145, 1146, 1147, 1148, 1149, 1150, 1151, 1152, 1153, 1154, 1155, 1156] (by decide +kernel) (by decide +kernel)
set_option maxRecDepth 20000 in
theorem gL_law_X7_tunnel : GoodIn wsL_law (wsV RL 155 RX7 yX7_tunnel wsX7_tunnel) := goodIn_app (goodIn_of _ (by decide +kernel)) ggL_law_X7_tunnel
set_option maxRecDepth 20000 in
theorem ggL_law_L_cell : GoodIn wsL_law wsL_cell := goodIn_ca (goodIn_ca (goodIn_r _ [856, 97, 273, 857, 858, 859, 2, 860, 278, 279, 19, 679, 833, 834, 835, 836, 111, 112, 680, 861, 499, 500, 15, 501, 39, 173, 174, 175, 176, 137, 40, 177, 178, 179, 180, 1132, 1133, 1134, 1135, 1136, 1137, 1138, 1139, 1140, 1161, 1162, 1163, 1164, 1165, 1166, 1167, 1168, 1169, 1170, 1171, 1172, 1173, 1174, 1157, 1158, 1159, 1160] (by decide +kernel) (by decide +kernel)) (goodIn_sub (fun _ h => List.mem_append_right _ h) (by decide +kernel))) (goodIn_sub (fun _ h => List.mem_append_left _ (List.mem_append_right _ h)) (by decide +kernel))
set_option maxRecDepth 20000 in
theorem gL_law_L_cell : GoodIn wsL_law (va_wsS RL 156 yL_cell wsL_cell) := goodIn_app (goodIn_of _ (by decide +kernel)) ggL_law_L_cell
set_option maxRecDepth 20000 in
theorem ggL_law_X7_cell : GoodIn wsL_law wsX7_cell := goodIn_r _ [865, 842, 843, 844, 5, 845, 686, 687, 688, 689, 84, 210, 211, 212, 213, 214, 215, 216, 217, 866, 867, 868, 869, 846, 847, 848, 849, 850, 851, 852, 853, 235, 236, 237, 238, 243, 244, 245, 246, 1141, 1142, 1143, 1144, 1145, 1146, 1147, 1148, 1149, 1150, 1151, 1152, 1153, 1154, 1155, 1156] (by decide +kernel) (by decide +kernel)
set_option maxRecDepth 20000 in
theorem gL_law_X7_cell : GoodIn wsL_law (wsV RL 158 RX7 yX7_cell wsX7_cell) := goodIn_app (goodIn_of _ (by decide +kernel)) ggL_law_X7_cell
set_option maxRecDepth 20000 in
theorem ggL_law_L_count : GoodIn wsL_law wsL_count := goodIn_ca (goodIn_r _ [872, 273, 873, 874, 875, 2, 876, 30, 19, 708, 709, 710, 711, 278, 279, 712, 713, 714, 29, 715, 71, 72, 74, 716, 717, 718, 719, 720, 721, 722, 723, 724, 725, 174, 175, 15, 176, 137, 40, 726, 178, 179, 180, 727, 728, 729, 730, 731, 732, 733, 734, 735, 736, 73, 737, 738, 739, 740, 741, 742, 743, 744, 745, 746, 747, 748, 749, 346, 347, 348, 750, 751, 752, 753, 877, 878, 879, 880, 881, 105, 882, 679, 680, 883, 324, 884, 34, 568, 117, 885, 886, 887, 18, 888, 46, 889, 890, 891, 892, 893, 894, 895, 896, 47, 426, 427, 428, 429, 49, 897, 898, 899, 900, 48, 901, 902, 903, 33, 904, 79, 905, 906, 907, 908, 495, 496, 497, 498, 499, 500, 501, 39, 173, 177, 909, 503, 504, 505, 910, 911, 912, 913, 914, 915, 916, 1132, 1133, 1134, 1135, 1136, 1137, 1138, 1139, 1140, 1177, 1178, 1179, 1180, 1161, 1162, 1163, 1164, 1165, 1166, 1167, 1168, 1169, 1170, 1171, 1172, 1173, 1174, 1157, 1158, 1159, 1160, 1183, 1184, 1185, 1186, 1187, 1188, 1189, 1181, 1182] (by decide +kernel) (by decide +kernel)) (goodIn_sub (fun _ h => List.mem_append_right _ h) (by decide +kernel))
set_option maxRecDepth 20000 in
theorem gL_law_L_count : GoodIn wsL_law (va_wsS RL 159 yL_count wsL_count) := goodIn_app (goodIn_of _ (by decide +kernel)) ggL_law_L_count
set_option maxRecDepth 20000 in
theorem ggL_law_X7_count : GoodIn wsL_law wsX7_count := goodIn_r _ [920, 210, 211, 5, 212, 213, 214, 215, 216, 217, 921, 922, 923, 924, 84, 222, 925, 926, 927, 928, 686, 687, 688, 689, 929, 930, 931, 932, 90, 775, 776, 777, 778, 243, 244, 245, 246, 255, 256, 257, 434, 435, 436, 437, 933, 934, 935, 936, 92, 937, 938, 939, 940, 223, 224, 225, 226, 235, 236, 237, 238, 1141, 1142, 1143, 1144, 1145, 1146, 1147, 1148, 1149, 1150, 1151, 1152, 1153, 1154, 1155, 1156] (by decide +kernel) (by decide +kernel)
set_option maxRecDepth 20000 in
theorem gL_law_X7_count : GoodIn wsL_law (wsV RL 161 RX7 yX7_count wsX7_count) := goodIn_app (goodIn_of _ (by decide +kernel)) ggL_law_X7_count
set_option maxRecDepth 20000 in
theorem ggL_law_L_joined : GoodIn wsL_law wsL_joined := goodIn_ca (goodIn_r _ [943, 97, 944, 945, 946, 2, 947, 34, 19, 948, 107, 108, 109, 110, 111, 112, 949, 950, 951, 33, 952, 78, 953, 905, 906, 908, 495, 496, 15, 497, 498, 499, 500, 501, 39, 173, 174, 175, 176, 137, 40, 177, 178, 179, 180, 909, 503, 504, 505, 910, 911, 912, 954, 955, 956, 957, 1132, 1133, 1134, 1135, 1136, 1137, 1138, 1139, 1140, 1181, 1182, 1161, 1162, 1163, 1164, 1165, 1166, 1167, 1168, 1169, 1170, 1171, 1172, 1173, 1174, 1157, 1158, 1159, 1160] (by decide +kernel) (by decide +kernel)) (goodIn_sub (fun _ h => List.mem_append_left _ (List.mem_append_right _ h)) (by decide +kernel))
set_option maxRecDepth 20000 in
theorem gL_law_L_joined : GoodIn wsL_law (va_wsS RL 162 yL_joined wsL_joined) := goodIn_app (goodIn_of _ (by decide +kernel)) ggL_law_L_joined
set_option maxRecDepth 20000 in
theorem ggL_law_X7_joined : GoodIn wsL_law wsX7_joined := goodIn_r _ [961, 207, 208, 5, 209, 210, 211, 212, 213, 214, 215, 216, 217, 962, 963, 964, 965, 92, 937, 938, 939, 940, 84, 223, 224, 225, 226, 243, 244, 245, 246, 235, 236, 237, 238, 1141, 1142, 1143, 1144, 1145, 1146, 1147, 1148, 1149, 1150, 1151, 1152, 1153, 1154, 1155, 1156] (by decide +kernel) (by decide +kernel)
set_option maxRecDepth 20000 in
theorem gL_law_X7_joined : GoodIn wsL_law (wsV RL 164 RX7 yX7_joined wsX7_joined) := goodIn_app (goodIn_of _ (by decide +kernel)) ggL_law_X7_joined
set_option maxRecDepth 20000 in
theorem ggL_law_L_fewest : GoodIn wsL_law wsL_fewest := goodIn_ca (goodIn_r _ [968, 97, 969, 970, 971, 2, 972, 34, 19, 948, 107, 108, 109, 110, 111, 112, 949, 950, 951, 33, 952, 78, 953, 905, 906, 908, 495, 496, 15, 497, 498, 499, 500, 501, 39, 173, 174, 175, 176, 137, 40, 177, 178, 179, 180, 909, 503, 504, 505, 910, 911, 912, 954, 955, 956, 957, 1132, 1133, 1134, 1135, 1136, 1137, 1138, 1139, 1140, 1181, 1182, 1161, 1162, 1163, 1164, 1165, 1166, 1167, 1168, 1169, 1170, 1171, 1172, 1173, 1174, 1157, 1158, 1159, 1160] (by decide +kernel) (by decide +kernel)) (goodIn_sub (fun _ h => List.mem_append_left _ (List.mem_append_right _ h)) (by decide +kernel))
set_option maxRecDepth 20000 in
theorem gL_law_L_fewest : GoodIn wsL_law (va_wsS RL 165 yL_fewest wsL_fewest) := goodIn_app (goodIn_of _ (by decide +kernel)) ggL_law_L_fewest
set_option maxRecDepth 20000 in
theorem ggL_law_X7_fewest : GoodIn wsL_law wsX7_fewest := goodIn_r _ [976, 207, 208, 5, 209, 210, 211, 212, 213, 214, 215, 216, 217, 962, 963, 964, 965, 92, 937, 938, 939, 940, 84, 223, 224, 225, 226, 243, 244, 245, 246, 235, 236, 237, 238, 1141, 1142, 1143, 1144, 1145, 1146, 1147, 1148, 1149, 1150, 1151, 1152, 1153, 1154, 1155, 1156] (by decide +kernel) (by decide +kernel)
set_option maxRecDepth 20000 in
theorem gL_law_X7_fewest : GoodIn wsL_law (wsV RL 167 RX7 yX7_fewest wsX7_fewest) := goodIn_app (goodIn_of _ (by decide +kernel)) ggL_law_X7_fewest
set_option maxRecDepth 20000 in
theorem ggL_law_L_ifDug : GoodIn wsL_law wsL_ifDug := goodIn_ca (goodIn_ca (goodIn_r _ [979, 97, 273, 980, 981, 982, 2, 983, 21, 19, 884, 30, 107, 108, 109, 110, 111, 112, 708, 709, 710, 711, 278, 279, 118, 119, 120, 18, 121, 46, 122, 123, 124, 125, 47, 48, 49, 51, 126, 53, 54, 127, 128, 129, 130, 131, 132, 133, 134, 15, 135, 136, 137, 39, 138, 40, 139, 140, 141, 57, 142, 143, 63, 144, 145, 61, 146, 62, 445, 446, 447, 448, 338, 339, 340, 341, 357, 358, 359, 360, 449, 450, 451, 452, 163, 55, 164, 165, 166, 167, 168, 169, 170, 171, 172, 173, 174, 175, 176, 177, 178, 179, 180, 181, 182, 183, 184, 185, 186, 453, 454, 455, 456, 457, 152, 191, 192, 193, 194, 199, 200, 201, 202, 154, 155, 156, 157, 158, 159, 160, 161, 162, 187, 188, 189, 190, 195, 196, 197, 198, 712, 713, 714, 29, 715, 71, 72, 74, 716, 717, 718, 719, 720, 721, 722, 723, 724, 725, 726, 727, 728, 729, 730, 731, 732, 733, 734, 735, 736, 73, 737, 738, 739, 740, 741, 742, 743, 744, 745, 746, 747, 748, 749, 346, 347, 348, 750, 751, 752, 753, 889, 890, 891, 892, 1132, 1133, 1134, 1135, 1136, 1137, 1138, 1139, 1140, 1161, 1162, 1163, 1164, 1165, 1166, 1167, 1168, 1169, 1170, 1171, 1172, 1173, 1174, 1157, 1158, 1159, 1160, 1183, 1184, 1185, 1186, 1187, 1188, 1189, 1177, 1178, 1179, 1180] (by decide +kernel) (by decide +kernel)) (goodIn_sub (fun _ h => List.mem_append_left _ (List.mem_append_right _ h)) (by decide +kernel))) (goodIn_sub (fun _ h => List.mem_append_right _ h) (by decide +kernel))
set_option maxRecDepth 20000 in
theorem gL_law_L_ifDug : GoodIn wsL_law (va_wsS RL 168 yL_ifDug wsL_ifDug) := goodIn_app (goodIn_of _ (by decide +kernel)) ggL_law_L_ifDug
set_option maxRecDepth 20000 in
theorem ggL_law_X7_ifDug : GoodIn wsL_law wsX7_ifDug := goodIn_r _ [987, 207, 208, 5, 209, 210, 211, 212, 213, 214, 215, 216, 217, 988, 989, 990, 991, 84, 992, 993, 994, 995, 85, 462, 463, 464, 465, 255, 256, 257, 395, 396, 397, 398, 466, 467, 468, 469, 235, 236, 237, 238, 239, 240, 241, 242, 243, 244, 245, 246, 247, 248, 249, 250, 251, 252, 253, 254, 223, 224, 225, 226, 227, 228, 229, 230, 231, 232, 233, 234, 258, 259, 260, 261, 262, 263, 264, 265, 929, 930, 931, 932, 90, 775, 776, 777, 778, 996, 997, 998, 999, 1141, 1142, 1143, 1144, 1145, 1146, 1147, 1148, 1149, 1150, 1151, 1152, 1153, 1154, 1155, 1156] (by decide +kernel) (by decide +kernel)
set_option maxRecDepth 20000 in
theorem gL_law_X7_ifDug : GoodIn wsL_law (wsV RL 170 RX7 yX7_ifDug wsX7_ifDug) := goodIn_app (goodIn_of _ (by decide +kernel)) ggL_law_X7_ifDug
set_option maxRecDepth 20000 in
theorem ggL_law_X6_bestDig : GoodIn wsL_law wsX6_bestDig := goodIn_r _ [1003, 30, 19, 712, 713, 714, 29, 715, 71, 72, 74, 716, 717, 718, 719, 720, 721, 722, 723, 724, 725, 174, 175, 15, 176, 137, 40, 726, 178, 179, 180, 727, 728, 729, 730, 731, 732, 733, 734, 735, 736, 73, 737, 738, 739, 740, 741, 742, 743, 744, 745, 746, 2, 747, 748, 749, 346, 347, 348, 750, 751, 752, 753, 1004, 1005, 1006, 1007, 759, 761, 1132, 1133, 1134, 1135, 1136, 1137, 1138, 1139, 1140, 1177, 1178, 1179, 1180, 1161, 1162, 1163, 1164, 1165, 1166, 1167, 1168, 1169, 1170, 1171, 1172, 1173, 1174, 1157, 1158, 1159, 1160, 1183, 1184, 1185, 1186, 1187, 1188, 1189] (by decide +kernel) (by decide +kernel)
set_option maxRecDepth 20000 in
theorem gL_law_X6_bestDig : GoodIn wsL_law (wsV RL 171 RX6 yX6_bestDig wsX6_bestDig) := goodIn_app (goodIn_of _ (by decide +kernel)) ggL_law_X6_bestDig
set_option maxRecDepth 20000 in
theorem ggL_law_X7_bestDig : GoodIn wsL_law wsX7_bestDig := goodIn_r _ [1011, 217, 1012, 1013, 1014, 5, 1015, 84, 798, 799, 800, 801, 235, 236, 237, 238, 239, 240, 241, 242, 243, 244, 245, 246, 1141, 1142, 1143, 1144, 1145, 1146, 1147, 1148, 1149, 1150, 1151, 1152, 1153, 1154, 1155, 1156] (by decide +kernel) (by decide +kernel)
set_option maxRecDepth 20000 in
theorem gL_law_X7_bestDig : GoodIn wsL_law (wsV RL 174 RX7 yX7_bestDig wsX7_bestDig) := goodIn_app (goodIn_of _ (by decide +kernel)) ggL_law_X7_bestDig
set_option maxRecDepth 20000 in
theorem ggL_law_L_ifPassed : GoodIn wsL_law wsL_ifPassed := goodIn_ca (goodIn_r _ [1018, 273, 1019, 1020, 1021, 2, 1022, 325, 326, 327, 328, 278, 279, 708, 709, 710, 711, 1023, 1024, 1025, 1026, 21, 19, 118, 119, 120, 18, 121, 46, 122, 123, 124, 125, 47, 48, 49, 51, 126, 53, 54, 127, 128, 129, 130, 131, 132, 133, 134, 15, 135, 136, 137, 39, 138, 40, 139, 140, 141, 57, 142, 143, 63, 144, 145, 61, 146, 62, 329, 330, 331, 332, 333, 334, 335, 336, 151, 337, 152, 338, 339, 340, 341, 342, 343, 344, 345, 346, 347, 348, 349, 350, 351, 352, 353, 354, 355, 356, 357, 358, 359, 360, 361, 362, 363, 364, 158, 191, 192, 193, 194, 183, 184, 185, 186, 199, 200, 201, 202, 154, 155, 156, 157, 159, 160, 161, 162, 55, 163, 164, 165, 166, 167, 168, 169, 170, 171, 172, 173, 174, 175, 176, 177, 178, 179, 180, 181, 182, 187, 188, 189, 190, 195, 196, 197, 198, 1027, 1028, 1029, 1030, 324, 679, 680, 882, 1132, 1133, 1134, 1135, 1136, 1137, 1138, 1139, 1140, 1161, 1162, 1163, 1164, 1165, 1166, 1167, 1168, 1169, 1170, 1171, 1172, 1173, 1174, 1157, 1158, 1159, 1160, 1183, 1184, 1185, 1186, 1187, 1188, 1189] (by decide +kernel) (by decide +kernel)) (goodIn_sub (fun _ h => List.mem_append_right _ h) (by decide +kernel))
set_option maxRecDepth 20000 in
theorem gL_law_L_ifPassed : GoodIn wsL_law (va_wsS RL 175 yL_ifPassed wsL_ifPassed) := goodIn_app (goodIn_of _ (by decide +kernel)) ggL_law_L_ifPassed
set_option maxRecDepth 20000 in
theorem ggL_law_X7_ifPassed : GoodIn wsL_law wsX7_ifPassed := goodIn_r _ [1034, 210, 211, 5, 212, 213, 214, 215, 216, 217, 1035, 1036, 1037, 1038, 84, 992, 993, 994, 995, 85, 369, 370, 371, 372, 373, 374, 375, 376, 377, 378, 379, 380, 255, 256, 257, 381, 382, 383, 384, 385, 386, 313, 314, 315, 316, 387, 388, 389, 390, 391, 392, 393, 394, 395, 396, 397, 398, 223, 224, 225, 226, 399, 400, 401, 402, 251, 252, 253, 254, 258, 259, 260, 261, 262, 263, 264, 265, 227, 228, 229, 230, 231, 232, 233, 234, 235, 236, 237, 238, 239, 240, 241, 242, 243, 244, 245, 246, 247, 248, 249, 250, 686, 687, 688, 689, 996, 997, 998, 999, 1141, 1142, 1143, 1144, 1145, 1146, 1147, 1148, 1149, 1150, 1151, 1152, 1153, 1154, 1155, 1156] (by decide +kernel) (by decide +kernel)
set_option maxRecDepth 20000 in
theorem gL_law_X7_ifPassed : GoodIn wsL_law (wsV RL 177 RX7 yX7_ifPassed wsX7_ifPassed) := goodIn_app (goodIn_of _ (by decide +kernel)) ggL_law_X7_ifPassed
set_option maxRecDepth 20000 in
theorem ggL_law_X6_nextMound : GoodIn wsL_law wsX6_nextMound := goodIn_r _ [1042, 1043, 1044, 1045, 2, 1046, 21, 19, 324, 118, 119, 120, 18, 121, 46, 122, 123, 124, 125, 47, 48, 49, 51, 126, 53, 54, 127, 128, 129, 130, 131, 132, 133, 134, 15, 135, 136, 137, 39, 138, 40, 139, 140, 141, 57, 142, 143, 63, 144, 145, 61, 146, 62, 1047, 1048, 1049, 1050, 151, 329, 330, 331, 332, 333, 334, 335, 336, 337, 152, 338, 339, 340, 341, 342, 343, 344, 345, 346, 347, 348, 349, 350, 351, 352, 353, 354, 355, 356, 357, 358, 359, 360, 361, 362, 363, 364, 158, 191, 192, 193, 194, 183, 184, 185, 186, 199, 200, 201, 202, 154, 155, 156, 157, 159, 160, 161, 162, 55, 163, 164, 165, 166, 167, 168, 169, 170, 171, 172, 173, 174, 175, 176, 177, 178, 179, 180, 181, 182, 187, 188, 189, 190, 195, 196, 197, 198, 1132, 1133, 1134, 1135, 1136, 1137, 1138, 1139, 1140, 1161, 1162, 1163, 1164, 1165, 1166, 1167, 1168, 1169, 1170, 1171, 1172, 1173, 1174, 1157, 1158, 1159, 1160, 1183, 1184, 1185, 1186, 1187, 1188, 1189] (by decide +kernel) (by decide +kernel)
set_option maxRecDepth 20000 in
theorem gL_law_X6_nextMound : GoodIn wsL_law (wsV RL 178 RX6 yX6_nextMound wsX6_nextMound) := goodIn_app (goodIn_of _ (by decide +kernel)) ggL_law_X6_nextMound
set_option maxRecDepth 20000 in
theorem ggL_law_X7_nextMound : GoodIn wsL_law wsX7_nextMound := goodIn_r _ [1054, 217, 1055, 1056, 1057, 5, 1058, 992, 993, 994, 995, 85, 84, 369, 370, 371, 372, 373, 374, 375, 376, 377, 378, 379, 380, 255, 256, 257, 381, 382, 383, 384, 385, 386, 210, 211, 212, 313, 314, 315, 316, 387, 388, 389, 390, 391, 392, 393, 394, 395, 396, 397, 398, 223, 224, 225, 226, 399, 400, 401, 402, 251, 252, 253, 254, 258, 259, 260, 261, 262, 263, 264, 265, 227, 228, 229, 230, 231, 232, 233, 234, 235, 236, 237, 238, 239, 240, 241, 242, 243, 244, 245, 246, 247, 248, 249, 250, 996, 997, 998, 999, 1141, 1142, 1143, 1144, 1145, 1146, 1147, 1148, 1149, 1150, 1151, 1152, 1153, 1154, 1155, 1156] (by decide +kernel) (by decide +kernel)
set_option maxRecDepth 20000 in
theorem gL_law_X7_nextMound : GoodIn wsL_law (wsV RL 181 RX7 yX7_nextMound wsX7_nextMound) := goodIn_app (goodIn_of _ (by decide +kernel)) ggL_law_X7_nextMound
set_option maxRecDepth 20000 in
theorem ggL_law_X6_hollowShare : GoodIn wsL_law wsX6_hollowShare := goodIn_r _ [1062, 30, 19, 1063, 712, 713, 714, 29, 715, 71, 72, 74, 716, 717, 718, 719, 720, 721, 722, 723, 724, 725, 174, 175, 15, 176, 137, 40, 726, 178, 179, 180, 727, 728, 729, 730, 731, 732, 733, 734, 735, 736, 73, 737, 738, 739, 740, 741, 742, 743, 744, 745, 746, 2, 747, 748, 749, 346, 347, 348, 750, 751, 752, 753, 889, 890, 891, 892, 1132, 1133, 1134, 1135, 1136, 1137, 1138, 1139, 1140, 1177, 1178, 1179, 1180, 1161, 1162, 1163, 1164, 1165, 1166, 1167, 1168, 1169, 1170, 1171, 1172, 1173, 1174, 1157, 1158, 1159, 1160, 1183, 1184, 1185, 1186, 1187, 1188, 1189] (by decide +kernel) (by decide +kernel)
set_option maxRecDepth 20000 in
theorem gL_law_X6_hollowShare : GoodIn wsL_law (wsV RL 182 RX6 yX6_hollowShare wsX6_hollowShare) := goodIn_app (goodIn_of _ (by decide +kernel)) ggL_law_X6_hollowShare
set_option maxRecDepth 20000 in
theorem ggL_law_X7_hollowShare : GoodIn wsL_law wsX7_hollowShare := goodIn_r _ [1067, 217, 1068, 1069, 1070, 5, 1071, 1072, 929, 930, 931, 932, 90, 775, 776, 777, 778, 84, 243, 244, 245, 246, 255, 256, 257, 1141, 1142, 1143, 1144, 1145, 1146, 1147, 1148, 1149, 1150, 1151, 1152, 1153, 1154, 1155, 1156] (by decide +kernel) (by decide +kernel)
set_option maxRecDepth 20000 in
theorem gL_law_X7_hollowShare : GoodIn wsL_law (wsV RL 186 RX7 yX7_hollowShare wsX7_hollowShare) := goodIn_app (goodIn_of _ (by decide +kernel)) ggL_law_X7_hollowShare
set_option maxRecDepth 20000 in
theorem ggL_law_X6_digest : GoodIn wsL_law wsX6_digest := goodIn_r _ [1076, 30, 19, 1077, 1078, 26, 588, 649, 712, 713, 714, 29, 715, 71, 72, 74, 716, 717, 718, 719, 720, 721, 722, 723, 724, 725, 174, 175, 15, 176, 137, 40, 726, 178, 179, 180, 727, 728, 729, 730, 731, 732, 733, 734, 735, 736, 73, 737, 738, 739, 740, 741, 742, 743, 744, 745, 746, 2, 747, 748, 749, 346, 347, 348, 750, 751, 752, 753, 877, 878, 879, 880, 881, 105, 882, 679, 680, 883, 324, 884, 34, 568, 117, 885, 886, 887, 18, 888, 46, 889, 890, 891, 892, 893, 894, 895, 896, 47, 426, 427, 428, 429, 49, 897, 898, 899, 900, 48, 901, 902, 903, 33, 904, 79, 905, 906, 907, 908, 495, 496, 497, 498, 499, 500, 501, 39, 173, 177, 909, 503, 504, 505, 910, 911, 912, 913, 914, 915, 916, 1079, 1080, 1081, 1082, 754, 755, 756, 757, 477, 106, 425, 758, 759, 760, 761, 762, 763, 764, 765, 766, 126, 53, 338, 339, 340, 57, 341, 62, 63, 1083, 1084, 1085, 1086, 280, 813, 814, 815, 816, 144, 143, 61, 145, 817, 1087, 1088, 1089, 1090, 837, 519, 520, 521, 494, 502, 861, 1091, 1092, 1093, 1094, 948, 1095, 1096, 1097, 1098, 949, 950, 951, 952, 78, 953, 954, 955, 956, 957, 1099, 1100, 1101, 1102, 1004, 1005, 1006, 1007, 1023, 1024, 1025, 1026, 21, 118, 119, 120, 121, 122, 123, 124, 125, 51, 54, 127, 128, 129, 130, 131, 132, 133, 134, 135, 136, 138, 139, 140, 141, 142, 146, 329, 330, 331, 332, 333, 334, 335, 336, 151, 337, 152, 342, 343, 344, 345, 349, 350, 351, 352, 353, 354, 355, 356, 357, 358, 359, 360, 361, 362, 363, 364, 158, 191, 192, 193, 194, 183, 184, 185, 186, 199, 200, 201, 202, 154, 155, 156, 157, 159, 160, 161, 162, 55, 163, 164, 165, 166, 167, 168, 169, 170, 171, 172, 181, 182, 187, 188, 189, 190, 195, 196, 197, 198, 1027, 1028, 1029, 1030, 1043, 1044, 1045, 1046, 1047, 1048, 1049, 1050, 1103, 1104, 1105, 1132, 1133, 1134, 1135, 1136, 1137, 1138, 1139, 1140, 1175, 1176, 1177, 1178, 1179, 1180, 1161, 1162, 1163, 1164, 1165, 1166, 1167, 1168, 1169, 1170, 1171, 1172, 1173, 1174, 1157, 1158, 1159, 1160, 1183, 1184, 1185, 1186, 1187, 1188, 1189, 1181, 1182] (by decide +kernel) (by decide +kernel)
set_option maxRecDepth 20000 in
theorem gL_law_X6_digest : GoodIn wsL_law (wsV RL 187 RX6 yX6_digest wsX6_digest) := goodIn_app (goodIn_of _ (by decide +kernel)) ggL_law_X6_digest
set_option maxRecDepth 20000 in
theorem ggL_law_X7_digest : GoodIn wsL_law wsX7_digest := goodIn_r _ [1109, 217, 1110, 1111, 598, 88, 921, 922, 923, 5, 924, 84, 222, 925, 926, 927, 928, 686, 687, 688, 689, 929, 930, 931, 932, 90, 775, 776, 777, 778, 243, 244, 245, 246, 255, 256, 257, 434, 435, 436, 437, 933, 934, 935, 936, 92, 937, 938, 939, 940, 223, 224, 225, 226, 235, 236, 237, 238, 1112, 1113, 1114, 1115, 1116, 1117, 1118, 1119, 1120, 771, 772, 773, 774, 91, 779, 780, 781, 782, 783, 784, 785, 210, 211, 212, 786, 787, 788, 789, 790, 791, 792, 793, 794, 795, 796, 797, 798, 799, 800, 801, 239, 240, 241, 242, 802, 803, 804, 805, 822, 823, 824, 825, 846, 847, 848, 849, 850, 851, 852, 853, 866, 867, 868, 869, 1121, 1122, 1123, 1124, 962, 963, 964, 965, 988, 989, 990, 991, 992, 993, 994, 995, 85, 462, 463, 464, 465, 395, 396, 397, 398, 466, 467, 468, 469, 247, 248, 249, 250, 251, 252, 253, 254, 227, 228, 229, 230, 231, 232, 233, 234, 258, 259, 260, 261, 262, 263, 264, 265, 996, 997, 998, 999, 1012, 1013, 1014, 1015, 1035, 1036, 1037, 1038, 369, 370, 371, 372, 373, 374, 375, 376, 377, 378, 379, 380, 381, 382, 383, 384, 385, 386, 313, 314, 315, 316, 387, 388, 389, 390, 391, 392, 393, 394, 399, 400, 401, 402, 1055, 1056, 1057, 1058, 1068, 1069, 1070, 1071, 1072, 1125, 1126, 1127, 1128, 1129, 1130, 1131, 1141, 1142, 1143, 1144, 1145, 1146, 1147, 1148, 1149, 1150, 1151, 1152, 1153, 1154, 1155, 1156] (by decide +kernel) (by decide +kernel)
set_option maxRecDepth 20000 in
theorem gL_law_X7_digest : GoodIn wsL_law (wsV RL 191 RX7 yX7_digest wsX7_digest) := goodIn_app (goodIn_of _ (by decide +kernel)) ggL_law_X7_digest
theorem dL_law_0 : decode cL_law 0 = .ok (.new 8, 3) := by decide +kernel
theorem dL_law_3 : decode cL_law 3 = .ok (.dup, 1) := by decide +kernel
theorem dL_law_4 : decode cL_law 4 = .ok (.invokespecial 84, 3) := by decide +kernel
theorem dL_law_7 : decode cL_law 7 = .ok (.astore_n 1, 1) := by decide +kernel
theorem dL_law_8 : decode cL_law 8 = .ok (.new 85, 3) := by decide +kernel
theorem dL_law_11 : decode cL_law 11 = .ok (.dup, 1) := by decide +kernel
theorem dL_law_12 : decode cL_law 12 = .ok (.invokespecial 87, 3) := by decide +kernel
theorem dL_law_15 : decode cL_law 15 = .ok (.astore_n 2, 1) := by decide +kernel
theorem dL_law_16 : decode cL_law 16 = .ok (.iconst 1, 1) := by decide +kernel
theorem dL_law_17 : decode cL_law 17 = .ok (.newarray .long, 2) := by decide +kernel
theorem dL_law_19 : decode cL_law 19 = .ok (.astore_n 3, 1) := by decide +kernel
theorem dL_law_20 : decode cL_law 20 = .ok (.iconst 0, 1) := by decide +kernel
theorem dL_law_21 : decode cL_law 21 = .ok (.istore 4, 2) := by decide +kernel
theorem dL_law_23 : decode cL_law 23 = .ok (.iload 4, 2) := by decide +kernel
theorem dL_law_25 : decode cL_law 25 = .ok (.aload_n 0, 1) := by decide +kernel
theorem dL_law_26 : decode cL_law 26 = .ok (.arraylength, 1) := by decide +kernel
theorem dL_law_27 : decode cL_law 27 = .ok (.iconst 3, 1) := by decide +kernel
theorem dL_law_28 : decode cL_law 28 = .ok (.isub, 1) := by decide +kernel
theorem dL_law_29 : decode cL_law 29 = .ok (.if_icmp .gt 1593, 3) := by decide +kernel
theorem dL_law_32 : decode cL_law 32 = .ok (.aload_n 0, 1) := by decide +kernel
theorem dL_law_33 : decode cL_law 33 = .ok (.iload 4, 2) := by decide +kernel
theorem dL_law_35 : decode cL_law 35 = .ok (.iaload, 1) := by decide +kernel
theorem dL_law_36 : decode cL_law 36 = .ok (.bipush 31, 2) := by decide +kernel
theorem dL_law_38 : decode cL_law 38 = .ok (.iand, 1) := by decide +kernel
theorem dL_law_39 : decode cL_law 39 = .ok (.tableswitch 1577 0 28 #[129, 185, 253, 309, 365, 433, 501, 557, 613, 669, 725, 738, 751, 795, 839, 852, 896, 964, 1032, 1100, 1168, 1224, 1292, 1360, 1428, 1441, 1509, 1522, 1563], 129) := by decide +kernel
theorem dL_law_168 : decode cL_law 168 = .ok (.aload_n 1, 1) := by decide +kernel
theorem dL_law_169 : decode cL_law 169 = .ok (.aload_n 0, 1) := by decide +kernel
theorem dL_law_170 : decode cL_law 170 = .ok (.iload 4, 2) := by decide +kernel
theorem dL_law_172 : decode cL_law 172 = .ok (.iconst 1, 1) := by decide +kernel
theorem dL_law_173 : decode cL_law 173 = .ok (.iadd, 1) := by decide +kernel
theorem dL_law_174 : decode cL_law 174 = .ok (.iaload, 1) := by decide +kernel
theorem dL_law_175 : decode cL_law 175 = .ok (.aload_n 3, 1) := by decide +kernel
theorem dL_law_176 : decode cL_law 176 = .ok (.invokestatic 88, 3) := by decide +kernel
theorem dL_law_179 : decode cL_law 179 = .ok (.istore 5, 2) := by decide +kernel
theorem dL_law_181 : decode cL_law 181 = .ok (.aload_n 2, 1) := by decide +kernel
theorem dL_law_182 : decode cL_law 182 = .ok (.aload_n 0, 1) := by decide +kernel
theorem dL_law_183 : decode cL_law 183 = .ok (.iload 4, 2) := by decide +kernel
theorem dL_law_185 : decode cL_law 185 = .ok (.iconst 1, 1) := by decide +kernel
theorem dL_law_186 : decode cL_law 186 = .ok (.iadd, 1) := by decide +kernel
theorem dL_law_187 : decode cL_law 187 = .ok (.iaload, 1) := by decide +kernel
theorem dL_law_188 : decode cL_law 188 = .ok (.invokevirtual 93, 3) := by decide +kernel
theorem dL_law_191 : decode cL_law 191 = .ok (.istore 6, 2) := by decide +kernel
theorem dL_law_193 : decode cL_law 193 = .ok (.aload_n 2, 1) := by decide +kernel
theorem dL_law_194 : decode cL_law 194 = .ok (.invokevirtual 94, 3) := by decide +kernel
theorem dL_law_197 : decode cL_law 197 = .ok (.iload 5, 2) := by decide +kernel
theorem dL_law_199 : decode cL_law 199 = .ok (.if_icmp .eq 5, 3) := by decide +kernel
theorem dL_law_202 : decode cL_law 202 = .ok (.iconst 0, 1) := by decide +kernel
theorem dL_law_203 : decode cL_law 203 = .ok (.ireturn, 1) := by decide +kernel
theorem dL_law_204 : decode cL_law 204 = .ok (.iload 5, 2) := by decide +kernel
theorem dL_law_206 : decode cL_law 206 = .ok (.ifCond .ne 15, 3) := by decide +kernel
theorem dL_law_209 : decode cL_law 209 = .ok (.aload_n 3, 1) := by decide +kernel
theorem dL_law_210 : decode cL_law 210 = .ok (.iconst 0, 1) := by decide +kernel
theorem dL_law_211 : decode cL_law 211 = .ok (.laload, 1) := by decide +kernel
theorem dL_law_212 : decode cL_law 212 = .ok (.iload 6, 2) := by decide +kernel
theorem dL_law_214 : decode cL_law 214 = .ok (.i2l, 1) := by decide +kernel
theorem dL_law_215 : decode cL_law 215 = .ok (.lcmp, 1) := by decide +kernel
theorem dL_law_216 : decode cL_law 216 = .ok (.ifCond .eq 5, 3) := by decide +kernel
theorem dL_law_219 : decode cL_law 219 = .ok (.iconst 0, 1) := by decide +kernel
theorem dL_law_220 : decode cL_law 220 = .ok (.ireturn, 1) := by decide +kernel
theorem dL_law_221 : decode cL_law 221 = .ok (.goto 1395, 3) := by decide +kernel
theorem dL_law_224 : decode cL_law 224 = .ok (.aload_n 1, 1) := by decide +kernel
theorem dL_law_225 : decode cL_law 225 = .ok (.aload_n 0, 1) := by decide +kernel
theorem dL_law_226 : decode cL_law 226 = .ok (.iload 4, 2) := by decide +kernel
theorem dL_law_228 : decode cL_law 228 = .ok (.iconst 1, 1) := by decide +kernel
theorem dL_law_229 : decode cL_law 229 = .ok (.iadd, 1) := by decide +kernel
theorem dL_law_230 : decode cL_law 230 = .ok (.iaload, 1) := by decide +kernel
theorem dL_law_231 : decode cL_law 231 = .ok (.aload_n 0, 1) := by decide +kernel
theorem dL_law_232 : decode cL_law 232 = .ok (.iload 4, 2) := by decide +kernel
theorem dL_law_234 : decode cL_law 234 = .ok (.iconst 2, 1) := by decide +kernel
theorem dL_law_235 : decode cL_law 235 = .ok (.iadd, 1) := by decide +kernel
theorem dL_law_236 : decode cL_law 236 = .ok (.iaload, 1) := by decide +kernel
theorem dL_law_237 : decode cL_law 237 = .ok (.aload_n 3, 1) := by decide +kernel
theorem dL_law_238 : decode cL_law 238 = .ok (.invokestatic 97, 3) := by decide +kernel
theorem dL_law_241 : decode cL_law 241 = .ok (.istore 5, 2) := by decide +kernel
theorem dL_law_243 : decode cL_law 243 = .ok (.aload_n 2, 1) := by decide +kernel
theorem dL_law_244 : decode cL_law 244 = .ok (.aload_n 0, 1) := by decide +kernel
theorem dL_law_245 : decode cL_law 245 = .ok (.iload 4, 2) := by decide +kernel
theorem dL_law_247 : decode cL_law 247 = .ok (.iconst 1, 1) := by decide +kernel
theorem dL_law_248 : decode cL_law 248 = .ok (.iadd, 1) := by decide +kernel
theorem dL_law_249 : decode cL_law 249 = .ok (.iaload, 1) := by decide +kernel
theorem dL_law_250 : decode cL_law 250 = .ok (.aload_n 0, 1) := by decide +kernel
theorem dL_law_251 : decode cL_law 251 = .ok (.iload 4, 2) := by decide +kernel
theorem dL_law_253 : decode cL_law 253 = .ok (.iconst 2, 1) := by decide +kernel
theorem dL_law_254 : decode cL_law 254 = .ok (.iadd, 1) := by decide +kernel
theorem dL_law_255 : decode cL_law 255 = .ok (.iaload, 1) := by decide +kernel
theorem dL_law_256 : decode cL_law 256 = .ok (.invokevirtual 100, 3) := by decide +kernel
theorem dL_law_259 : decode cL_law 259 = .ok (.istore 6, 2) := by decide +kernel
theorem dL_law_261 : decode cL_law 261 = .ok (.aload_n 2, 1) := by decide +kernel
theorem dL_law_262 : decode cL_law 262 = .ok (.invokevirtual 94, 3) := by decide +kernel
theorem dL_law_265 : decode cL_law 265 = .ok (.iload 5, 2) := by decide +kernel
theorem dL_law_267 : decode cL_law 267 = .ok (.if_icmp .eq 5, 3) := by decide +kernel
theorem dL_law_270 : decode cL_law 270 = .ok (.iconst 0, 1) := by decide +kernel
theorem dL_law_271 : decode cL_law 271 = .ok (.ireturn, 1) := by decide +kernel
theorem dL_law_272 : decode cL_law 272 = .ok (.iload 5, 2) := by decide +kernel
theorem dL_law_274 : decode cL_law 274 = .ok (.ifCond .ne 15, 3) := by decide +kernel
theorem dL_law_277 : decode cL_law 277 = .ok (.aload_n 3, 1) := by decide +kernel
theorem dL_law_278 : decode cL_law 278 = .ok (.iconst 0, 1) := by decide +kernel
theorem dL_law_279 : decode cL_law 279 = .ok (.laload, 1) := by decide +kernel
theorem dL_law_280 : decode cL_law 280 = .ok (.iload 6, 2) := by decide +kernel
theorem dL_law_282 : decode cL_law 282 = .ok (.i2l, 1) := by decide +kernel
theorem dL_law_283 : decode cL_law 283 = .ok (.lcmp, 1) := by decide +kernel
theorem dL_law_284 : decode cL_law 284 = .ok (.ifCond .eq 5, 3) := by decide +kernel
theorem dL_law_287 : decode cL_law 287 = .ok (.iconst 0, 1) := by decide +kernel
theorem dL_law_288 : decode cL_law 288 = .ok (.ireturn, 1) := by decide +kernel
theorem dL_law_289 : decode cL_law 289 = .ok (.goto 1327, 3) := by decide +kernel
theorem dL_law_292 : decode cL_law 292 = .ok (.aload_n 1, 1) := by decide +kernel
theorem dL_law_293 : decode cL_law 293 = .ok (.aload_n 0, 1) := by decide +kernel
theorem dL_law_294 : decode cL_law 294 = .ok (.iload 4, 2) := by decide +kernel
theorem dL_law_296 : decode cL_law 296 = .ok (.iconst 1, 1) := by decide +kernel
theorem dL_law_297 : decode cL_law 297 = .ok (.iadd, 1) := by decide +kernel
theorem dL_law_298 : decode cL_law 298 = .ok (.iaload, 1) := by decide +kernel
theorem dL_law_299 : decode cL_law 299 = .ok (.aload_n 3, 1) := by decide +kernel
theorem dL_law_300 : decode cL_law 300 = .ok (.invokestatic 101, 3) := by decide +kernel
theorem dL_law_303 : decode cL_law 303 = .ok (.istore 5, 2) := by decide +kernel
theorem dL_law_305 : decode cL_law 305 = .ok (.aload_n 2, 1) := by decide +kernel
theorem dL_law_306 : decode cL_law 306 = .ok (.aload_n 0, 1) := by decide +kernel
theorem dL_law_307 : decode cL_law 307 = .ok (.iload 4, 2) := by decide +kernel
theorem dL_law_309 : decode cL_law 309 = .ok (.iconst 1, 1) := by decide +kernel
theorem dL_law_310 : decode cL_law 310 = .ok (.iadd, 1) := by decide +kernel
theorem dL_law_311 : decode cL_law 311 = .ok (.iaload, 1) := by decide +kernel
theorem dL_law_312 : decode cL_law 312 = .ok (.invokevirtual 103, 3) := by decide +kernel
theorem dL_law_315 : decode cL_law 315 = .ok (.istore 6, 2) := by decide +kernel
theorem dL_law_317 : decode cL_law 317 = .ok (.aload_n 2, 1) := by decide +kernel
theorem dL_law_318 : decode cL_law 318 = .ok (.invokevirtual 94, 3) := by decide +kernel
theorem dL_law_321 : decode cL_law 321 = .ok (.iload 5, 2) := by decide +kernel
theorem dL_law_323 : decode cL_law 323 = .ok (.if_icmp .eq 5, 3) := by decide +kernel
theorem dL_law_326 : decode cL_law 326 = .ok (.iconst 0, 1) := by decide +kernel
theorem dL_law_327 : decode cL_law 327 = .ok (.ireturn, 1) := by decide +kernel
theorem dL_law_328 : decode cL_law 328 = .ok (.iload 5, 2) := by decide +kernel
theorem dL_law_330 : decode cL_law 330 = .ok (.ifCond .ne 15, 3) := by decide +kernel
theorem dL_law_333 : decode cL_law 333 = .ok (.aload_n 3, 1) := by decide +kernel
theorem dL_law_334 : decode cL_law 334 = .ok (.iconst 0, 1) := by decide +kernel
theorem dL_law_335 : decode cL_law 335 = .ok (.laload, 1) := by decide +kernel
theorem dL_law_336 : decode cL_law 336 = .ok (.iload 6, 2) := by decide +kernel
theorem dL_law_338 : decode cL_law 338 = .ok (.i2l, 1) := by decide +kernel
theorem dL_law_339 : decode cL_law 339 = .ok (.lcmp, 1) := by decide +kernel
theorem dL_law_340 : decode cL_law 340 = .ok (.ifCond .eq 5, 3) := by decide +kernel
theorem dL_law_343 : decode cL_law 343 = .ok (.iconst 0, 1) := by decide +kernel
theorem dL_law_344 : decode cL_law 344 = .ok (.ireturn, 1) := by decide +kernel
theorem dL_law_345 : decode cL_law 345 = .ok (.goto 1271, 3) := by decide +kernel
theorem dL_law_348 : decode cL_law 348 = .ok (.aload_n 1, 1) := by decide +kernel
theorem dL_law_349 : decode cL_law 349 = .ok (.aload_n 0, 1) := by decide +kernel
theorem dL_law_350 : decode cL_law 350 = .ok (.iload 4, 2) := by decide +kernel
theorem dL_law_352 : decode cL_law 352 = .ok (.iconst 1, 1) := by decide +kernel
theorem dL_law_353 : decode cL_law 353 = .ok (.iadd, 1) := by decide +kernel
theorem dL_law_354 : decode cL_law 354 = .ok (.iaload, 1) := by decide +kernel
theorem dL_law_355 : decode cL_law 355 = .ok (.aload_n 3, 1) := by decide +kernel
theorem dL_law_356 : decode cL_law 356 = .ok (.invokestatic 104, 3) := by decide +kernel
theorem dL_law_359 : decode cL_law 359 = .ok (.istore 5, 2) := by decide +kernel
theorem dL_law_361 : decode cL_law 361 = .ok (.aload_n 2, 1) := by decide +kernel
theorem dL_law_362 : decode cL_law 362 = .ok (.aload_n 0, 1) := by decide +kernel
theorem dL_law_363 : decode cL_law 363 = .ok (.iload 4, 2) := by decide +kernel
theorem dL_law_365 : decode cL_law 365 = .ok (.iconst 1, 1) := by decide +kernel
theorem dL_law_366 : decode cL_law 366 = .ok (.iadd, 1) := by decide +kernel
theorem dL_law_367 : decode cL_law 367 = .ok (.iaload, 1) := by decide +kernel
theorem dL_law_368 : decode cL_law 368 = .ok (.invokevirtual 106, 3) := by decide +kernel
theorem dL_law_371 : decode cL_law 371 = .ok (.istore 6, 2) := by decide +kernel
theorem dL_law_373 : decode cL_law 373 = .ok (.aload_n 2, 1) := by decide +kernel
theorem dL_law_374 : decode cL_law 374 = .ok (.invokevirtual 94, 3) := by decide +kernel
theorem dL_law_377 : decode cL_law 377 = .ok (.iload 5, 2) := by decide +kernel
theorem dL_law_379 : decode cL_law 379 = .ok (.if_icmp .eq 5, 3) := by decide +kernel
theorem dL_law_382 : decode cL_law 382 = .ok (.iconst 0, 1) := by decide +kernel
theorem dL_law_383 : decode cL_law 383 = .ok (.ireturn, 1) := by decide +kernel
theorem dL_law_384 : decode cL_law 384 = .ok (.iload 5, 2) := by decide +kernel
theorem dL_law_386 : decode cL_law 386 = .ok (.ifCond .ne 15, 3) := by decide +kernel
theorem dL_law_389 : decode cL_law 389 = .ok (.aload_n 3, 1) := by decide +kernel
theorem dL_law_390 : decode cL_law 390 = .ok (.iconst 0, 1) := by decide +kernel
theorem dL_law_391 : decode cL_law 391 = .ok (.laload, 1) := by decide +kernel
theorem dL_law_392 : decode cL_law 392 = .ok (.iload 6, 2) := by decide +kernel
theorem dL_law_394 : decode cL_law 394 = .ok (.i2l, 1) := by decide +kernel
theorem dL_law_395 : decode cL_law 395 = .ok (.lcmp, 1) := by decide +kernel
theorem dL_law_396 : decode cL_law 396 = .ok (.ifCond .eq 5, 3) := by decide +kernel
theorem dL_law_399 : decode cL_law 399 = .ok (.iconst 0, 1) := by decide +kernel
theorem dL_law_400 : decode cL_law 400 = .ok (.ireturn, 1) := by decide +kernel
theorem dL_law_401 : decode cL_law 401 = .ok (.goto 1215, 3) := by decide +kernel
theorem dL_law_404 : decode cL_law 404 = .ok (.aload_n 1, 1) := by decide +kernel
theorem dL_law_405 : decode cL_law 405 = .ok (.aload_n 0, 1) := by decide +kernel
theorem dL_law_406 : decode cL_law 406 = .ok (.iload 4, 2) := by decide +kernel
theorem dL_law_408 : decode cL_law 408 = .ok (.iconst 1, 1) := by decide +kernel
theorem dL_law_409 : decode cL_law 409 = .ok (.iadd, 1) := by decide +kernel
theorem dL_law_410 : decode cL_law 410 = .ok (.iaload, 1) := by decide +kernel
theorem dL_law_411 : decode cL_law 411 = .ok (.aload_n 0, 1) := by decide +kernel
theorem dL_law_412 : decode cL_law 412 = .ok (.iload 4, 2) := by decide +kernel
theorem dL_law_414 : decode cL_law 414 = .ok (.iconst 2, 1) := by decide +kernel
theorem dL_law_415 : decode cL_law 415 = .ok (.iadd, 1) := by decide +kernel
theorem dL_law_416 : decode cL_law 416 = .ok (.iaload, 1) := by decide +kernel
theorem dL_law_417 : decode cL_law 417 = .ok (.aload_n 3, 1) := by decide +kernel
theorem dL_law_418 : decode cL_law 418 = .ok (.invokestatic 107, 3) := by decide +kernel
theorem dL_law_421 : decode cL_law 421 = .ok (.istore 5, 2) := by decide +kernel
theorem dL_law_423 : decode cL_law 423 = .ok (.aload_n 2, 1) := by decide +kernel
theorem dL_law_424 : decode cL_law 424 = .ok (.aload_n 0, 1) := by decide +kernel
theorem dL_law_425 : decode cL_law 425 = .ok (.iload 4, 2) := by decide +kernel
theorem dL_law_427 : decode cL_law 427 = .ok (.iconst 1, 1) := by decide +kernel
theorem dL_law_428 : decode cL_law 428 = .ok (.iadd, 1) := by decide +kernel
theorem dL_law_429 : decode cL_law 429 = .ok (.iaload, 1) := by decide +kernel
theorem dL_law_430 : decode cL_law 430 = .ok (.aload_n 0, 1) := by decide +kernel
theorem dL_law_431 : decode cL_law 431 = .ok (.iload 4, 2) := by decide +kernel
theorem dL_law_433 : decode cL_law 433 = .ok (.iconst 2, 1) := by decide +kernel
theorem dL_law_434 : decode cL_law 434 = .ok (.iadd, 1) := by decide +kernel
theorem dL_law_435 : decode cL_law 435 = .ok (.iaload, 1) := by decide +kernel
theorem dL_law_436 : decode cL_law 436 = .ok (.invokevirtual 109, 3) := by decide +kernel
theorem dL_law_439 : decode cL_law 439 = .ok (.istore 6, 2) := by decide +kernel
theorem dL_law_441 : decode cL_law 441 = .ok (.aload_n 2, 1) := by decide +kernel
theorem dL_law_442 : decode cL_law 442 = .ok (.invokevirtual 94, 3) := by decide +kernel
theorem dL_law_445 : decode cL_law 445 = .ok (.iload 5, 2) := by decide +kernel
theorem dL_law_447 : decode cL_law 447 = .ok (.if_icmp .eq 5, 3) := by decide +kernel
theorem dL_law_450 : decode cL_law 450 = .ok (.iconst 0, 1) := by decide +kernel
theorem dL_law_451 : decode cL_law 451 = .ok (.ireturn, 1) := by decide +kernel
theorem dL_law_452 : decode cL_law 452 = .ok (.iload 5, 2) := by decide +kernel
theorem dL_law_454 : decode cL_law 454 = .ok (.ifCond .ne 15, 3) := by decide +kernel
theorem dL_law_457 : decode cL_law 457 = .ok (.aload_n 3, 1) := by decide +kernel
theorem dL_law_458 : decode cL_law 458 = .ok (.iconst 0, 1) := by decide +kernel
theorem dL_law_459 : decode cL_law 459 = .ok (.laload, 1) := by decide +kernel
theorem dL_law_460 : decode cL_law 460 = .ok (.iload 6, 2) := by decide +kernel
theorem dL_law_462 : decode cL_law 462 = .ok (.i2l, 1) := by decide +kernel
theorem dL_law_463 : decode cL_law 463 = .ok (.lcmp, 1) := by decide +kernel
theorem dL_law_464 : decode cL_law 464 = .ok (.ifCond .eq 5, 3) := by decide +kernel
theorem dL_law_467 : decode cL_law 467 = .ok (.iconst 0, 1) := by decide +kernel
theorem dL_law_468 : decode cL_law 468 = .ok (.ireturn, 1) := by decide +kernel
theorem dL_law_469 : decode cL_law 469 = .ok (.goto 1147, 3) := by decide +kernel
theorem dL_law_472 : decode cL_law 472 = .ok (.aload_n 1, 1) := by decide +kernel
theorem dL_law_473 : decode cL_law 473 = .ok (.aload_n 0, 1) := by decide +kernel
theorem dL_law_474 : decode cL_law 474 = .ok (.iload 4, 2) := by decide +kernel
theorem dL_law_476 : decode cL_law 476 = .ok (.iconst 1, 1) := by decide +kernel
theorem dL_law_477 : decode cL_law 477 = .ok (.iadd, 1) := by decide +kernel
theorem dL_law_478 : decode cL_law 478 = .ok (.iaload, 1) := by decide +kernel
theorem dL_law_479 : decode cL_law 479 = .ok (.aload_n 0, 1) := by decide +kernel
theorem dL_law_480 : decode cL_law 480 = .ok (.iload 4, 2) := by decide +kernel
theorem dL_law_482 : decode cL_law 482 = .ok (.iconst 2, 1) := by decide +kernel
theorem dL_law_483 : decode cL_law 483 = .ok (.iadd, 1) := by decide +kernel
theorem dL_law_484 : decode cL_law 484 = .ok (.iaload, 1) := by decide +kernel
theorem dL_law_485 : decode cL_law 485 = .ok (.aload_n 3, 1) := by decide +kernel
theorem dL_law_486 : decode cL_law 486 = .ok (.invokestatic 110, 3) := by decide +kernel
theorem dL_law_489 : decode cL_law 489 = .ok (.istore 5, 2) := by decide +kernel
theorem dL_law_491 : decode cL_law 491 = .ok (.aload_n 2, 1) := by decide +kernel
theorem dL_law_492 : decode cL_law 492 = .ok (.aload_n 0, 1) := by decide +kernel
theorem dL_law_493 : decode cL_law 493 = .ok (.iload 4, 2) := by decide +kernel
theorem dL_law_495 : decode cL_law 495 = .ok (.iconst 1, 1) := by decide +kernel
theorem dL_law_496 : decode cL_law 496 = .ok (.iadd, 1) := by decide +kernel
theorem dL_law_497 : decode cL_law 497 = .ok (.iaload, 1) := by decide +kernel
theorem dL_law_498 : decode cL_law 498 = .ok (.aload_n 0, 1) := by decide +kernel
theorem dL_law_499 : decode cL_law 499 = .ok (.iload 4, 2) := by decide +kernel
theorem dL_law_501 : decode cL_law 501 = .ok (.iconst 2, 1) := by decide +kernel
theorem dL_law_502 : decode cL_law 502 = .ok (.iadd, 1) := by decide +kernel
theorem dL_law_503 : decode cL_law 503 = .ok (.iaload, 1) := by decide +kernel
theorem dL_law_504 : decode cL_law 504 = .ok (.invokevirtual 112, 3) := by decide +kernel
theorem dL_law_507 : decode cL_law 507 = .ok (.istore 6, 2) := by decide +kernel
theorem dL_law_509 : decode cL_law 509 = .ok (.aload_n 2, 1) := by decide +kernel
theorem dL_law_510 : decode cL_law 510 = .ok (.invokevirtual 94, 3) := by decide +kernel
theorem dL_law_513 : decode cL_law 513 = .ok (.iload 5, 2) := by decide +kernel
theorem dL_law_515 : decode cL_law 515 = .ok (.if_icmp .eq 5, 3) := by decide +kernel
theorem dL_law_518 : decode cL_law 518 = .ok (.iconst 0, 1) := by decide +kernel
theorem dL_law_519 : decode cL_law 519 = .ok (.ireturn, 1) := by decide +kernel
theorem dL_law_520 : decode cL_law 520 = .ok (.iload 5, 2) := by decide +kernel
theorem dL_law_522 : decode cL_law 522 = .ok (.ifCond .ne 15, 3) := by decide +kernel
theorem dL_law_525 : decode cL_law 525 = .ok (.aload_n 3, 1) := by decide +kernel
theorem dL_law_526 : decode cL_law 526 = .ok (.iconst 0, 1) := by decide +kernel
theorem dL_law_527 : decode cL_law 527 = .ok (.laload, 1) := by decide +kernel
theorem dL_law_528 : decode cL_law 528 = .ok (.iload 6, 2) := by decide +kernel
theorem dL_law_530 : decode cL_law 530 = .ok (.i2l, 1) := by decide +kernel
theorem dL_law_531 : decode cL_law 531 = .ok (.lcmp, 1) := by decide +kernel
theorem dL_law_532 : decode cL_law 532 = .ok (.ifCond .eq 5, 3) := by decide +kernel
theorem dL_law_535 : decode cL_law 535 = .ok (.iconst 0, 1) := by decide +kernel
theorem dL_law_536 : decode cL_law 536 = .ok (.ireturn, 1) := by decide +kernel
theorem dL_law_537 : decode cL_law 537 = .ok (.goto 1079, 3) := by decide +kernel
theorem dL_law_540 : decode cL_law 540 = .ok (.aload_n 1, 1) := by decide +kernel
theorem dL_law_541 : decode cL_law 541 = .ok (.aload_n 0, 1) := by decide +kernel
theorem dL_law_542 : decode cL_law 542 = .ok (.iload 4, 2) := by decide +kernel
theorem dL_law_544 : decode cL_law 544 = .ok (.iconst 1, 1) := by decide +kernel
theorem dL_law_545 : decode cL_law 545 = .ok (.iadd, 1) := by decide +kernel
theorem dL_law_546 : decode cL_law 546 = .ok (.iaload, 1) := by decide +kernel
theorem dL_law_547 : decode cL_law 547 = .ok (.aload_n 3, 1) := by decide +kernel
theorem dL_law_548 : decode cL_law 548 = .ok (.invokestatic 113, 3) := by decide +kernel
theorem dL_law_551 : decode cL_law 551 = .ok (.istore 5, 2) := by decide +kernel
theorem dL_law_553 : decode cL_law 553 = .ok (.aload_n 2, 1) := by decide +kernel
theorem dL_law_554 : decode cL_law 554 = .ok (.aload_n 0, 1) := by decide +kernel
theorem dL_law_555 : decode cL_law 555 = .ok (.iload 4, 2) := by decide +kernel
theorem dL_law_557 : decode cL_law 557 = .ok (.iconst 1, 1) := by decide +kernel
theorem dL_law_558 : decode cL_law 558 = .ok (.iadd, 1) := by decide +kernel
theorem dL_law_559 : decode cL_law 559 = .ok (.iaload, 1) := by decide +kernel
theorem dL_law_560 : decode cL_law 560 = .ok (.invokevirtual 115, 3) := by decide +kernel
theorem dL_law_563 : decode cL_law 563 = .ok (.istore 6, 2) := by decide +kernel
theorem dL_law_565 : decode cL_law 565 = .ok (.aload_n 2, 1) := by decide +kernel
theorem dL_law_566 : decode cL_law 566 = .ok (.invokevirtual 94, 3) := by decide +kernel
theorem dL_law_569 : decode cL_law 569 = .ok (.iload 5, 2) := by decide +kernel
theorem dL_law_571 : decode cL_law 571 = .ok (.if_icmp .eq 5, 3) := by decide +kernel
theorem dL_law_574 : decode cL_law 574 = .ok (.iconst 0, 1) := by decide +kernel
theorem dL_law_575 : decode cL_law 575 = .ok (.ireturn, 1) := by decide +kernel
theorem dL_law_576 : decode cL_law 576 = .ok (.iload 5, 2) := by decide +kernel
theorem dL_law_578 : decode cL_law 578 = .ok (.ifCond .ne 15, 3) := by decide +kernel
theorem dL_law_581 : decode cL_law 581 = .ok (.aload_n 3, 1) := by decide +kernel
theorem dL_law_582 : decode cL_law 582 = .ok (.iconst 0, 1) := by decide +kernel
theorem dL_law_583 : decode cL_law 583 = .ok (.laload, 1) := by decide +kernel
theorem dL_law_584 : decode cL_law 584 = .ok (.iload 6, 2) := by decide +kernel
theorem dL_law_586 : decode cL_law 586 = .ok (.i2l, 1) := by decide +kernel
theorem dL_law_587 : decode cL_law 587 = .ok (.lcmp, 1) := by decide +kernel
theorem dL_law_588 : decode cL_law 588 = .ok (.ifCond .eq 5, 3) := by decide +kernel
theorem dL_law_591 : decode cL_law 591 = .ok (.iconst 0, 1) := by decide +kernel
theorem dL_law_592 : decode cL_law 592 = .ok (.ireturn, 1) := by decide +kernel
theorem dL_law_593 : decode cL_law 593 = .ok (.goto 1023, 3) := by decide +kernel
theorem dL_law_596 : decode cL_law 596 = .ok (.aload_n 1, 1) := by decide +kernel
theorem dL_law_597 : decode cL_law 597 = .ok (.aload_n 0, 1) := by decide +kernel
theorem dL_law_598 : decode cL_law 598 = .ok (.iload 4, 2) := by decide +kernel
theorem dL_law_600 : decode cL_law 600 = .ok (.iconst 1, 1) := by decide +kernel
theorem dL_law_601 : decode cL_law 601 = .ok (.iadd, 1) := by decide +kernel
theorem dL_law_602 : decode cL_law 602 = .ok (.iaload, 1) := by decide +kernel
theorem dL_law_603 : decode cL_law 603 = .ok (.aload_n 3, 1) := by decide +kernel
theorem dL_law_604 : decode cL_law 604 = .ok (.invokestatic 116, 3) := by decide +kernel
theorem dL_law_607 : decode cL_law 607 = .ok (.istore 5, 2) := by decide +kernel
theorem dL_law_609 : decode cL_law 609 = .ok (.aload_n 2, 1) := by decide +kernel
theorem dL_law_610 : decode cL_law 610 = .ok (.aload_n 0, 1) := by decide +kernel
theorem dL_law_611 : decode cL_law 611 = .ok (.iload 4, 2) := by decide +kernel
theorem dL_law_613 : decode cL_law 613 = .ok (.iconst 1, 1) := by decide +kernel
theorem dL_law_614 : decode cL_law 614 = .ok (.iadd, 1) := by decide +kernel
theorem dL_law_615 : decode cL_law 615 = .ok (.iaload, 1) := by decide +kernel
theorem dL_law_616 : decode cL_law 616 = .ok (.invokevirtual 118, 3) := by decide +kernel
theorem dL_law_619 : decode cL_law 619 = .ok (.istore 6, 2) := by decide +kernel
theorem dL_law_621 : decode cL_law 621 = .ok (.aload_n 2, 1) := by decide +kernel
theorem dL_law_622 : decode cL_law 622 = .ok (.invokevirtual 94, 3) := by decide +kernel
theorem dL_law_625 : decode cL_law 625 = .ok (.iload 5, 2) := by decide +kernel
theorem dL_law_627 : decode cL_law 627 = .ok (.if_icmp .eq 5, 3) := by decide +kernel
theorem dL_law_630 : decode cL_law 630 = .ok (.iconst 0, 1) := by decide +kernel
theorem dL_law_631 : decode cL_law 631 = .ok (.ireturn, 1) := by decide +kernel
theorem dL_law_632 : decode cL_law 632 = .ok (.iload 5, 2) := by decide +kernel
theorem dL_law_634 : decode cL_law 634 = .ok (.ifCond .ne 15, 3) := by decide +kernel
theorem dL_law_637 : decode cL_law 637 = .ok (.aload_n 3, 1) := by decide +kernel
theorem dL_law_638 : decode cL_law 638 = .ok (.iconst 0, 1) := by decide +kernel
theorem dL_law_639 : decode cL_law 639 = .ok (.laload, 1) := by decide +kernel
theorem dL_law_640 : decode cL_law 640 = .ok (.iload 6, 2) := by decide +kernel
theorem dL_law_642 : decode cL_law 642 = .ok (.i2l, 1) := by decide +kernel
theorem dL_law_643 : decode cL_law 643 = .ok (.lcmp, 1) := by decide +kernel
theorem dL_law_644 : decode cL_law 644 = .ok (.ifCond .eq 5, 3) := by decide +kernel
theorem dL_law_647 : decode cL_law 647 = .ok (.iconst 0, 1) := by decide +kernel
theorem dL_law_648 : decode cL_law 648 = .ok (.ireturn, 1) := by decide +kernel
theorem dL_law_649 : decode cL_law 649 = .ok (.goto 967, 3) := by decide +kernel
theorem dL_law_652 : decode cL_law 652 = .ok (.aload_n 1, 1) := by decide +kernel
theorem dL_law_653 : decode cL_law 653 = .ok (.aload_n 0, 1) := by decide +kernel
theorem dL_law_654 : decode cL_law 654 = .ok (.iload 4, 2) := by decide +kernel
theorem dL_law_656 : decode cL_law 656 = .ok (.iconst 1, 1) := by decide +kernel
theorem dL_law_657 : decode cL_law 657 = .ok (.iadd, 1) := by decide +kernel
theorem dL_law_658 : decode cL_law 658 = .ok (.iaload, 1) := by decide +kernel
theorem dL_law_659 : decode cL_law 659 = .ok (.aload_n 3, 1) := by decide +kernel
theorem dL_law_660 : decode cL_law 660 = .ok (.invokestatic 119, 3) := by decide +kernel
theorem dL_law_663 : decode cL_law 663 = .ok (.istore 5, 2) := by decide +kernel
theorem dL_law_665 : decode cL_law 665 = .ok (.aload_n 2, 1) := by decide +kernel
theorem dL_law_666 : decode cL_law 666 = .ok (.aload_n 0, 1) := by decide +kernel
theorem dL_law_667 : decode cL_law 667 = .ok (.iload 4, 2) := by decide +kernel
theorem dL_law_669 : decode cL_law 669 = .ok (.iconst 1, 1) := by decide +kernel
theorem dL_law_670 : decode cL_law 670 = .ok (.iadd, 1) := by decide +kernel
theorem dL_law_671 : decode cL_law 671 = .ok (.iaload, 1) := by decide +kernel
theorem dL_law_672 : decode cL_law 672 = .ok (.invokevirtual 121, 3) := by decide +kernel
theorem dL_law_675 : decode cL_law 675 = .ok (.istore 6, 2) := by decide +kernel
theorem dL_law_677 : decode cL_law 677 = .ok (.aload_n 2, 1) := by decide +kernel
theorem dL_law_678 : decode cL_law 678 = .ok (.invokevirtual 94, 3) := by decide +kernel
theorem dL_law_681 : decode cL_law 681 = .ok (.iload 5, 2) := by decide +kernel
theorem dL_law_683 : decode cL_law 683 = .ok (.if_icmp .eq 5, 3) := by decide +kernel
theorem dL_law_686 : decode cL_law 686 = .ok (.iconst 0, 1) := by decide +kernel
theorem dL_law_687 : decode cL_law 687 = .ok (.ireturn, 1) := by decide +kernel
theorem dL_law_688 : decode cL_law 688 = .ok (.iload 5, 2) := by decide +kernel
theorem dL_law_690 : decode cL_law 690 = .ok (.ifCond .ne 15, 3) := by decide +kernel
theorem dL_law_693 : decode cL_law 693 = .ok (.aload_n 3, 1) := by decide +kernel
theorem dL_law_694 : decode cL_law 694 = .ok (.iconst 0, 1) := by decide +kernel
theorem dL_law_695 : decode cL_law 695 = .ok (.laload, 1) := by decide +kernel
theorem dL_law_696 : decode cL_law 696 = .ok (.iload 6, 2) := by decide +kernel
theorem dL_law_698 : decode cL_law 698 = .ok (.i2l, 1) := by decide +kernel
theorem dL_law_699 : decode cL_law 699 = .ok (.lcmp, 1) := by decide +kernel
theorem dL_law_700 : decode cL_law 700 = .ok (.ifCond .eq 5, 3) := by decide +kernel
theorem dL_law_703 : decode cL_law 703 = .ok (.iconst 0, 1) := by decide +kernel
theorem dL_law_704 : decode cL_law 704 = .ok (.ireturn, 1) := by decide +kernel
theorem dL_law_705 : decode cL_law 705 = .ok (.goto 911, 3) := by decide +kernel
theorem dL_law_708 : decode cL_law 708 = .ok (.aload_n 1, 1) := by decide +kernel
theorem dL_law_709 : decode cL_law 709 = .ok (.aload_n 0, 1) := by decide +kernel
theorem dL_law_710 : decode cL_law 710 = .ok (.iload 4, 2) := by decide +kernel
theorem dL_law_712 : decode cL_law 712 = .ok (.iconst 1, 1) := by decide +kernel
theorem dL_law_713 : decode cL_law 713 = .ok (.iadd, 1) := by decide +kernel
theorem dL_law_714 : decode cL_law 714 = .ok (.iaload, 1) := by decide +kernel
theorem dL_law_715 : decode cL_law 715 = .ok (.aload_n 3, 1) := by decide +kernel
theorem dL_law_716 : decode cL_law 716 = .ok (.invokestatic 122, 3) := by decide +kernel
theorem dL_law_719 : decode cL_law 719 = .ok (.istore 5, 2) := by decide +kernel
theorem dL_law_721 : decode cL_law 721 = .ok (.aload_n 2, 1) := by decide +kernel
theorem dL_law_722 : decode cL_law 722 = .ok (.aload_n 0, 1) := by decide +kernel
theorem dL_law_723 : decode cL_law 723 = .ok (.iload 4, 2) := by decide +kernel
theorem dL_law_725 : decode cL_law 725 = .ok (.iconst 1, 1) := by decide +kernel
theorem dL_law_726 : decode cL_law 726 = .ok (.iadd, 1) := by decide +kernel
theorem dL_law_727 : decode cL_law 727 = .ok (.iaload, 1) := by decide +kernel
theorem dL_law_728 : decode cL_law 728 = .ok (.invokevirtual 124, 3) := by decide +kernel
theorem dL_law_731 : decode cL_law 731 = .ok (.istore 6, 2) := by decide +kernel
theorem dL_law_733 : decode cL_law 733 = .ok (.aload_n 2, 1) := by decide +kernel
theorem dL_law_734 : decode cL_law 734 = .ok (.invokevirtual 94, 3) := by decide +kernel
theorem dL_law_737 : decode cL_law 737 = .ok (.iload 5, 2) := by decide +kernel
theorem dL_law_739 : decode cL_law 739 = .ok (.if_icmp .eq 5, 3) := by decide +kernel
theorem dL_law_742 : decode cL_law 742 = .ok (.iconst 0, 1) := by decide +kernel
theorem dL_law_743 : decode cL_law 743 = .ok (.ireturn, 1) := by decide +kernel
theorem dL_law_744 : decode cL_law 744 = .ok (.iload 5, 2) := by decide +kernel
theorem dL_law_746 : decode cL_law 746 = .ok (.ifCond .ne 15, 3) := by decide +kernel
theorem dL_law_749 : decode cL_law 749 = .ok (.aload_n 3, 1) := by decide +kernel
theorem dL_law_750 : decode cL_law 750 = .ok (.iconst 0, 1) := by decide +kernel
theorem dL_law_751 : decode cL_law 751 = .ok (.laload, 1) := by decide +kernel
theorem dL_law_752 : decode cL_law 752 = .ok (.iload 6, 2) := by decide +kernel
theorem dL_law_754 : decode cL_law 754 = .ok (.i2l, 1) := by decide +kernel
theorem dL_law_755 : decode cL_law 755 = .ok (.lcmp, 1) := by decide +kernel
theorem dL_law_756 : decode cL_law 756 = .ok (.ifCond .eq 5, 3) := by decide +kernel
theorem dL_law_759 : decode cL_law 759 = .ok (.iconst 0, 1) := by decide +kernel
theorem dL_law_760 : decode cL_law 760 = .ok (.ireturn, 1) := by decide +kernel
theorem dL_law_761 : decode cL_law 761 = .ok (.goto 855, 3) := by decide +kernel
theorem dL_law_764 : decode cL_law 764 = .ok (.aload_n 1, 1) := by decide +kernel
theorem dL_law_765 : decode cL_law 765 = .ok (.invokevirtual 125, 3) := by decide +kernel
theorem dL_law_768 : decode cL_law 768 = .ok (.aload_n 2, 1) := by decide +kernel
theorem dL_law_769 : decode cL_law 769 = .ok (.invokevirtual 128, 3) := by decide +kernel
theorem dL_law_772 : decode cL_law 772 = .ok (.if_icmp .eq 844, 3) := by decide +kernel
theorem dL_law_775 : decode cL_law 775 = .ok (.iconst 0, 1) := by decide +kernel
theorem dL_law_776 : decode cL_law 776 = .ok (.ireturn, 1) := by decide +kernel
theorem dL_law_777 : decode cL_law 777 = .ok (.aload_n 1, 1) := by decide +kernel
theorem dL_law_778 : decode cL_law 778 = .ok (.invokevirtual 129, 3) := by decide +kernel
theorem dL_law_781 : decode cL_law 781 = .ok (.aload_n 2, 1) := by decide +kernel
theorem dL_law_782 : decode cL_law 782 = .ok (.invokevirtual 132, 3) := by decide +kernel
theorem dL_law_785 : decode cL_law 785 = .ok (.if_icmp .eq 831, 3) := by decide +kernel
theorem dL_law_788 : decode cL_law 788 = .ok (.iconst 0, 1) := by decide +kernel
theorem dL_law_789 : decode cL_law 789 = .ok (.ireturn, 1) := by decide +kernel
theorem dL_law_790 : decode cL_law 790 = .ok (.aload_n 1, 1) := by decide +kernel
theorem dL_law_791 : decode cL_law 791 = .ok (.aload_n 3, 1) := by decide +kernel
theorem dL_law_792 : decode cL_law 792 = .ok (.invokestatic 133, 3) := by decide +kernel
theorem dL_law_795 : decode cL_law 795 = .ok (.istore 5, 2) := by decide +kernel
theorem dL_law_797 : decode cL_law 797 = .ok (.aload_n 2, 1) := by decide +kernel
theorem dL_law_798 : decode cL_law 798 = .ok (.invokevirtual 136, 3) := by decide +kernel
theorem dL_law_801 : decode cL_law 801 = .ok (.istore 6, 2) := by decide +kernel
theorem dL_law_803 : decode cL_law 803 = .ok (.aload_n 2, 1) := by decide +kernel
theorem dL_law_804 : decode cL_law 804 = .ok (.invokevirtual 94, 3) := by decide +kernel
theorem dL_law_807 : decode cL_law 807 = .ok (.iload 5, 2) := by decide +kernel
theorem dL_law_809 : decode cL_law 809 = .ok (.if_icmp .eq 5, 3) := by decide +kernel
theorem dL_law_812 : decode cL_law 812 = .ok (.iconst 0, 1) := by decide +kernel
theorem dL_law_813 : decode cL_law 813 = .ok (.ireturn, 1) := by decide +kernel
theorem dL_law_814 : decode cL_law 814 = .ok (.iload 5, 2) := by decide +kernel
theorem dL_law_816 : decode cL_law 816 = .ok (.ifCond .ne 15, 3) := by decide +kernel
theorem dL_law_819 : decode cL_law 819 = .ok (.aload_n 3, 1) := by decide +kernel
theorem dL_law_820 : decode cL_law 820 = .ok (.iconst 0, 1) := by decide +kernel
theorem dL_law_821 : decode cL_law 821 = .ok (.laload, 1) := by decide +kernel
theorem dL_law_822 : decode cL_law 822 = .ok (.iload 6, 2) := by decide +kernel
theorem dL_law_824 : decode cL_law 824 = .ok (.i2l, 1) := by decide +kernel
theorem dL_law_825 : decode cL_law 825 = .ok (.lcmp, 1) := by decide +kernel
theorem dL_law_826 : decode cL_law 826 = .ok (.ifCond .eq 5, 3) := by decide +kernel
theorem dL_law_829 : decode cL_law 829 = .ok (.iconst 0, 1) := by decide +kernel
theorem dL_law_830 : decode cL_law 830 = .ok (.ireturn, 1) := by decide +kernel
theorem dL_law_831 : decode cL_law 831 = .ok (.goto 785, 3) := by decide +kernel
theorem dL_law_834 : decode cL_law 834 = .ok (.aload_n 1, 1) := by decide +kernel
theorem dL_law_835 : decode cL_law 835 = .ok (.aload_n 3, 1) := by decide +kernel
theorem dL_law_836 : decode cL_law 836 = .ok (.invokestatic 137, 3) := by decide +kernel
theorem dL_law_839 : decode cL_law 839 = .ok (.istore 5, 2) := by decide +kernel
theorem dL_law_841 : decode cL_law 841 = .ok (.aload_n 2, 1) := by decide +kernel
theorem dL_law_842 : decode cL_law 842 = .ok (.invokevirtual 139, 3) := by decide +kernel
theorem dL_law_845 : decode cL_law 845 = .ok (.istore 6, 2) := by decide +kernel
theorem dL_law_847 : decode cL_law 847 = .ok (.aload_n 2, 1) := by decide +kernel
theorem dL_law_848 : decode cL_law 848 = .ok (.invokevirtual 94, 3) := by decide +kernel
theorem dL_law_851 : decode cL_law 851 = .ok (.iload 5, 2) := by decide +kernel
theorem dL_law_853 : decode cL_law 853 = .ok (.if_icmp .eq 5, 3) := by decide +kernel
theorem dL_law_856 : decode cL_law 856 = .ok (.iconst 0, 1) := by decide +kernel
theorem dL_law_857 : decode cL_law 857 = .ok (.ireturn, 1) := by decide +kernel
theorem dL_law_858 : decode cL_law 858 = .ok (.iload 5, 2) := by decide +kernel
theorem dL_law_860 : decode cL_law 860 = .ok (.ifCond .ne 15, 3) := by decide +kernel
theorem dL_law_863 : decode cL_law 863 = .ok (.aload_n 3, 1) := by decide +kernel
theorem dL_law_864 : decode cL_law 864 = .ok (.iconst 0, 1) := by decide +kernel
theorem dL_law_865 : decode cL_law 865 = .ok (.laload, 1) := by decide +kernel
theorem dL_law_866 : decode cL_law 866 = .ok (.iload 6, 2) := by decide +kernel
theorem dL_law_868 : decode cL_law 868 = .ok (.i2l, 1) := by decide +kernel
theorem dL_law_869 : decode cL_law 869 = .ok (.lcmp, 1) := by decide +kernel
theorem dL_law_870 : decode cL_law 870 = .ok (.ifCond .eq 5, 3) := by decide +kernel
theorem dL_law_873 : decode cL_law 873 = .ok (.iconst 0, 1) := by decide +kernel
theorem dL_law_874 : decode cL_law 874 = .ok (.ireturn, 1) := by decide +kernel
theorem dL_law_875 : decode cL_law 875 = .ok (.goto 741, 3) := by decide +kernel
theorem dL_law_878 : decode cL_law 878 = .ok (.aload_n 1, 1) := by decide +kernel
theorem dL_law_879 : decode cL_law 879 = .ok (.invokevirtual 140, 3) := by decide +kernel
theorem dL_law_882 : decode cL_law 882 = .ok (.aload_n 2, 1) := by decide +kernel
theorem dL_law_883 : decode cL_law 883 = .ok (.invokevirtual 143, 3) := by decide +kernel
theorem dL_law_886 : decode cL_law 886 = .ok (.if_icmp .eq 730, 3) := by decide +kernel
theorem dL_law_889 : decode cL_law 889 = .ok (.iconst 0, 1) := by decide +kernel
theorem dL_law_890 : decode cL_law 890 = .ok (.ireturn, 1) := by decide +kernel
theorem dL_law_891 : decode cL_law 891 = .ok (.aload_n 1, 1) := by decide +kernel
theorem dL_law_892 : decode cL_law 892 = .ok (.aload_n 3, 1) := by decide +kernel
theorem dL_law_893 : decode cL_law 893 = .ok (.invokestatic 144, 3) := by decide +kernel
theorem dL_law_896 : decode cL_law 896 = .ok (.istore 5, 2) := by decide +kernel
theorem dL_law_898 : decode cL_law 898 = .ok (.aload_n 2, 1) := by decide +kernel
theorem dL_law_899 : decode cL_law 899 = .ok (.invokevirtual 146, 3) := by decide +kernel
theorem dL_law_902 : decode cL_law 902 = .ok (.istore 6, 2) := by decide +kernel
theorem dL_law_904 : decode cL_law 904 = .ok (.aload_n 2, 1) := by decide +kernel
theorem dL_law_905 : decode cL_law 905 = .ok (.invokevirtual 94, 3) := by decide +kernel
theorem dL_law_908 : decode cL_law 908 = .ok (.iload 5, 2) := by decide +kernel
theorem dL_law_910 : decode cL_law 910 = .ok (.if_icmp .eq 5, 3) := by decide +kernel
theorem dL_law_913 : decode cL_law 913 = .ok (.iconst 0, 1) := by decide +kernel
theorem dL_law_914 : decode cL_law 914 = .ok (.ireturn, 1) := by decide +kernel
theorem dL_law_915 : decode cL_law 915 = .ok (.iload 5, 2) := by decide +kernel
theorem dL_law_917 : decode cL_law 917 = .ok (.ifCond .ne 15, 3) := by decide +kernel
theorem dL_law_920 : decode cL_law 920 = .ok (.aload_n 3, 1) := by decide +kernel
theorem dL_law_921 : decode cL_law 921 = .ok (.iconst 0, 1) := by decide +kernel
theorem dL_law_922 : decode cL_law 922 = .ok (.laload, 1) := by decide +kernel
theorem dL_law_923 : decode cL_law 923 = .ok (.iload 6, 2) := by decide +kernel
theorem dL_law_925 : decode cL_law 925 = .ok (.i2l, 1) := by decide +kernel
theorem dL_law_926 : decode cL_law 926 = .ok (.lcmp, 1) := by decide +kernel
theorem dL_law_927 : decode cL_law 927 = .ok (.ifCond .eq 5, 3) := by decide +kernel
theorem dL_law_930 : decode cL_law 930 = .ok (.iconst 0, 1) := by decide +kernel
theorem dL_law_931 : decode cL_law 931 = .ok (.ireturn, 1) := by decide +kernel
theorem dL_law_932 : decode cL_law 932 = .ok (.goto 684, 3) := by decide +kernel
theorem dL_law_935 : decode cL_law 935 = .ok (.aload_n 1, 1) := by decide +kernel
theorem dL_law_936 : decode cL_law 936 = .ok (.aload_n 0, 1) := by decide +kernel
theorem dL_law_937 : decode cL_law 937 = .ok (.iload 4, 2) := by decide +kernel
theorem dL_law_939 : decode cL_law 939 = .ok (.iconst 1, 1) := by decide +kernel
theorem dL_law_940 : decode cL_law 940 = .ok (.iadd, 1) := by decide +kernel
theorem dL_law_941 : decode cL_law 941 = .ok (.iaload, 1) := by decide +kernel
theorem dL_law_942 : decode cL_law 942 = .ok (.aload_n 0, 1) := by decide +kernel
theorem dL_law_943 : decode cL_law 943 = .ok (.iload 4, 2) := by decide +kernel
theorem dL_law_945 : decode cL_law 945 = .ok (.iconst 2, 1) := by decide +kernel
theorem dL_law_946 : decode cL_law 946 = .ok (.iadd, 1) := by decide +kernel
theorem dL_law_947 : decode cL_law 947 = .ok (.iaload, 1) := by decide +kernel
theorem dL_law_948 : decode cL_law 948 = .ok (.aload_n 3, 1) := by decide +kernel
theorem dL_law_949 : decode cL_law 949 = .ok (.invokestatic 147, 3) := by decide +kernel
theorem dL_law_952 : decode cL_law 952 = .ok (.istore 5, 2) := by decide +kernel
theorem dL_law_954 : decode cL_law 954 = .ok (.aload_n 2, 1) := by decide +kernel
theorem dL_law_955 : decode cL_law 955 = .ok (.aload_n 0, 1) := by decide +kernel
theorem dL_law_956 : decode cL_law 956 = .ok (.iload 4, 2) := by decide +kernel
theorem dL_law_958 : decode cL_law 958 = .ok (.iconst 1, 1) := by decide +kernel
theorem dL_law_959 : decode cL_law 959 = .ok (.iadd, 1) := by decide +kernel
theorem dL_law_960 : decode cL_law 960 = .ok (.iaload, 1) := by decide +kernel
theorem dL_law_961 : decode cL_law 961 = .ok (.aload_n 0, 1) := by decide +kernel
theorem dL_law_962 : decode cL_law 962 = .ok (.iload 4, 2) := by decide +kernel
theorem dL_law_964 : decode cL_law 964 = .ok (.iconst 2, 1) := by decide +kernel
theorem dL_law_965 : decode cL_law 965 = .ok (.iadd, 1) := by decide +kernel
theorem dL_law_966 : decode cL_law 966 = .ok (.iaload, 1) := by decide +kernel
theorem dL_law_967 : decode cL_law 967 = .ok (.invokevirtual 149, 3) := by decide +kernel
theorem dL_law_970 : decode cL_law 970 = .ok (.istore 6, 2) := by decide +kernel
theorem dL_law_972 : decode cL_law 972 = .ok (.aload_n 2, 1) := by decide +kernel
theorem dL_law_973 : decode cL_law 973 = .ok (.invokevirtual 94, 3) := by decide +kernel
theorem dL_law_976 : decode cL_law 976 = .ok (.iload 5, 2) := by decide +kernel
theorem dL_law_978 : decode cL_law 978 = .ok (.if_icmp .eq 5, 3) := by decide +kernel
theorem dL_law_981 : decode cL_law 981 = .ok (.iconst 0, 1) := by decide +kernel
theorem dL_law_982 : decode cL_law 982 = .ok (.ireturn, 1) := by decide +kernel
theorem dL_law_983 : decode cL_law 983 = .ok (.iload 5, 2) := by decide +kernel
theorem dL_law_985 : decode cL_law 985 = .ok (.ifCond .ne 15, 3) := by decide +kernel
theorem dL_law_988 : decode cL_law 988 = .ok (.aload_n 3, 1) := by decide +kernel
theorem dL_law_989 : decode cL_law 989 = .ok (.iconst 0, 1) := by decide +kernel
theorem dL_law_990 : decode cL_law 990 = .ok (.laload, 1) := by decide +kernel
theorem dL_law_991 : decode cL_law 991 = .ok (.iload 6, 2) := by decide +kernel
theorem dL_law_993 : decode cL_law 993 = .ok (.i2l, 1) := by decide +kernel
theorem dL_law_994 : decode cL_law 994 = .ok (.lcmp, 1) := by decide +kernel
theorem dL_law_995 : decode cL_law 995 = .ok (.ifCond .eq 5, 3) := by decide +kernel
theorem dL_law_998 : decode cL_law 998 = .ok (.iconst 0, 1) := by decide +kernel
theorem dL_law_999 : decode cL_law 999 = .ok (.ireturn, 1) := by decide +kernel
theorem dL_law_1000 : decode cL_law 1000 = .ok (.goto 616, 3) := by decide +kernel
theorem dL_law_1003 : decode cL_law 1003 = .ok (.aload_n 1, 1) := by decide +kernel
theorem dL_law_1004 : decode cL_law 1004 = .ok (.aload_n 0, 1) := by decide +kernel
theorem dL_law_1005 : decode cL_law 1005 = .ok (.iload 4, 2) := by decide +kernel
theorem dL_law_1007 : decode cL_law 1007 = .ok (.iconst 1, 1) := by decide +kernel
theorem dL_law_1008 : decode cL_law 1008 = .ok (.iadd, 1) := by decide +kernel
theorem dL_law_1009 : decode cL_law 1009 = .ok (.iaload, 1) := by decide +kernel
theorem dL_law_1010 : decode cL_law 1010 = .ok (.aload_n 0, 1) := by decide +kernel
theorem dL_law_1011 : decode cL_law 1011 = .ok (.iload 4, 2) := by decide +kernel
theorem dL_law_1013 : decode cL_law 1013 = .ok (.iconst 2, 1) := by decide +kernel
theorem dL_law_1014 : decode cL_law 1014 = .ok (.iadd, 1) := by decide +kernel
theorem dL_law_1015 : decode cL_law 1015 = .ok (.iaload, 1) := by decide +kernel
theorem dL_law_1016 : decode cL_law 1016 = .ok (.aload_n 3, 1) := by decide +kernel
theorem dL_law_1017 : decode cL_law 1017 = .ok (.invokestatic 150, 3) := by decide +kernel
theorem dL_law_1020 : decode cL_law 1020 = .ok (.istore 5, 2) := by decide +kernel
theorem dL_law_1022 : decode cL_law 1022 = .ok (.aload_n 2, 1) := by decide +kernel
theorem dL_law_1023 : decode cL_law 1023 = .ok (.aload_n 0, 1) := by decide +kernel
theorem dL_law_1024 : decode cL_law 1024 = .ok (.iload 4, 2) := by decide +kernel
theorem dL_law_1026 : decode cL_law 1026 = .ok (.iconst 1, 1) := by decide +kernel
theorem dL_law_1027 : decode cL_law 1027 = .ok (.iadd, 1) := by decide +kernel
theorem dL_law_1028 : decode cL_law 1028 = .ok (.iaload, 1) := by decide +kernel
theorem dL_law_1029 : decode cL_law 1029 = .ok (.aload_n 0, 1) := by decide +kernel
theorem dL_law_1030 : decode cL_law 1030 = .ok (.iload 4, 2) := by decide +kernel
theorem dL_law_1032 : decode cL_law 1032 = .ok (.iconst 2, 1) := by decide +kernel
theorem dL_law_1033 : decode cL_law 1033 = .ok (.iadd, 1) := by decide +kernel
theorem dL_law_1034 : decode cL_law 1034 = .ok (.iaload, 1) := by decide +kernel
theorem dL_law_1035 : decode cL_law 1035 = .ok (.invokevirtual 152, 3) := by decide +kernel
theorem dL_law_1038 : decode cL_law 1038 = .ok (.istore 6, 2) := by decide +kernel
theorem dL_law_1040 : decode cL_law 1040 = .ok (.aload_n 2, 1) := by decide +kernel
theorem dL_law_1041 : decode cL_law 1041 = .ok (.invokevirtual 94, 3) := by decide +kernel
theorem dL_law_1044 : decode cL_law 1044 = .ok (.iload 5, 2) := by decide +kernel
theorem dL_law_1046 : decode cL_law 1046 = .ok (.if_icmp .eq 5, 3) := by decide +kernel
theorem dL_law_1049 : decode cL_law 1049 = .ok (.iconst 0, 1) := by decide +kernel
theorem dL_law_1050 : decode cL_law 1050 = .ok (.ireturn, 1) := by decide +kernel
theorem dL_law_1051 : decode cL_law 1051 = .ok (.iload 5, 2) := by decide +kernel
theorem dL_law_1053 : decode cL_law 1053 = .ok (.ifCond .ne 15, 3) := by decide +kernel
theorem dL_law_1056 : decode cL_law 1056 = .ok (.aload_n 3, 1) := by decide +kernel
theorem dL_law_1057 : decode cL_law 1057 = .ok (.iconst 0, 1) := by decide +kernel
theorem dL_law_1058 : decode cL_law 1058 = .ok (.laload, 1) := by decide +kernel
theorem dL_law_1059 : decode cL_law 1059 = .ok (.iload 6, 2) := by decide +kernel
theorem dL_law_1061 : decode cL_law 1061 = .ok (.i2l, 1) := by decide +kernel
theorem dL_law_1062 : decode cL_law 1062 = .ok (.lcmp, 1) := by decide +kernel
theorem dL_law_1063 : decode cL_law 1063 = .ok (.ifCond .eq 5, 3) := by decide +kernel
theorem dL_law_1066 : decode cL_law 1066 = .ok (.iconst 0, 1) := by decide +kernel
theorem dL_law_1067 : decode cL_law 1067 = .ok (.ireturn, 1) := by decide +kernel
theorem dL_law_1068 : decode cL_law 1068 = .ok (.goto 548, 3) := by decide +kernel
theorem dL_law_1071 : decode cL_law 1071 = .ok (.aload_n 1, 1) := by decide +kernel
theorem dL_law_1072 : decode cL_law 1072 = .ok (.aload_n 0, 1) := by decide +kernel
theorem dL_law_1073 : decode cL_law 1073 = .ok (.iload 4, 2) := by decide +kernel
theorem dL_law_1075 : decode cL_law 1075 = .ok (.iconst 1, 1) := by decide +kernel
theorem dL_law_1076 : decode cL_law 1076 = .ok (.iadd, 1) := by decide +kernel
theorem dL_law_1077 : decode cL_law 1077 = .ok (.iaload, 1) := by decide +kernel
theorem dL_law_1078 : decode cL_law 1078 = .ok (.aload_n 0, 1) := by decide +kernel
theorem dL_law_1079 : decode cL_law 1079 = .ok (.iload 4, 2) := by decide +kernel
theorem dL_law_1081 : decode cL_law 1081 = .ok (.iconst 2, 1) := by decide +kernel
theorem dL_law_1082 : decode cL_law 1082 = .ok (.iadd, 1) := by decide +kernel
theorem dL_law_1083 : decode cL_law 1083 = .ok (.iaload, 1) := by decide +kernel
theorem dL_law_1084 : decode cL_law 1084 = .ok (.aload_n 3, 1) := by decide +kernel
theorem dL_law_1085 : decode cL_law 1085 = .ok (.invokestatic 153, 3) := by decide +kernel
theorem dL_law_1088 : decode cL_law 1088 = .ok (.istore 5, 2) := by decide +kernel
theorem dL_law_1090 : decode cL_law 1090 = .ok (.aload_n 2, 1) := by decide +kernel
theorem dL_law_1091 : decode cL_law 1091 = .ok (.aload_n 0, 1) := by decide +kernel
theorem dL_law_1092 : decode cL_law 1092 = .ok (.iload 4, 2) := by decide +kernel
theorem dL_law_1094 : decode cL_law 1094 = .ok (.iconst 1, 1) := by decide +kernel
theorem dL_law_1095 : decode cL_law 1095 = .ok (.iadd, 1) := by decide +kernel
theorem dL_law_1096 : decode cL_law 1096 = .ok (.iaload, 1) := by decide +kernel
theorem dL_law_1097 : decode cL_law 1097 = .ok (.aload_n 0, 1) := by decide +kernel
theorem dL_law_1098 : decode cL_law 1098 = .ok (.iload 4, 2) := by decide +kernel
theorem dL_law_1100 : decode cL_law 1100 = .ok (.iconst 2, 1) := by decide +kernel
theorem dL_law_1101 : decode cL_law 1101 = .ok (.iadd, 1) := by decide +kernel
theorem dL_law_1102 : decode cL_law 1102 = .ok (.iaload, 1) := by decide +kernel
theorem dL_law_1103 : decode cL_law 1103 = .ok (.invokevirtual 155, 3) := by decide +kernel
theorem dL_law_1106 : decode cL_law 1106 = .ok (.istore 6, 2) := by decide +kernel
theorem dL_law_1108 : decode cL_law 1108 = .ok (.aload_n 2, 1) := by decide +kernel
theorem dL_law_1109 : decode cL_law 1109 = .ok (.invokevirtual 94, 3) := by decide +kernel
theorem dL_law_1112 : decode cL_law 1112 = .ok (.iload 5, 2) := by decide +kernel
theorem dL_law_1114 : decode cL_law 1114 = .ok (.if_icmp .eq 5, 3) := by decide +kernel
theorem dL_law_1117 : decode cL_law 1117 = .ok (.iconst 0, 1) := by decide +kernel
theorem dL_law_1118 : decode cL_law 1118 = .ok (.ireturn, 1) := by decide +kernel
theorem dL_law_1119 : decode cL_law 1119 = .ok (.iload 5, 2) := by decide +kernel
theorem dL_law_1121 : decode cL_law 1121 = .ok (.ifCond .ne 15, 3) := by decide +kernel
theorem dL_law_1124 : decode cL_law 1124 = .ok (.aload_n 3, 1) := by decide +kernel
theorem dL_law_1125 : decode cL_law 1125 = .ok (.iconst 0, 1) := by decide +kernel
theorem dL_law_1126 : decode cL_law 1126 = .ok (.laload, 1) := by decide +kernel
theorem dL_law_1127 : decode cL_law 1127 = .ok (.iload 6, 2) := by decide +kernel
theorem dL_law_1129 : decode cL_law 1129 = .ok (.i2l, 1) := by decide +kernel
theorem dL_law_1130 : decode cL_law 1130 = .ok (.lcmp, 1) := by decide +kernel
theorem dL_law_1131 : decode cL_law 1131 = .ok (.ifCond .eq 5, 3) := by decide +kernel
theorem dL_law_1134 : decode cL_law 1134 = .ok (.iconst 0, 1) := by decide +kernel
theorem dL_law_1135 : decode cL_law 1135 = .ok (.ireturn, 1) := by decide +kernel
theorem dL_law_1136 : decode cL_law 1136 = .ok (.goto 480, 3) := by decide +kernel
theorem dL_law_1139 : decode cL_law 1139 = .ok (.aload_n 1, 1) := by decide +kernel
theorem dL_law_1140 : decode cL_law 1140 = .ok (.aload_n 0, 1) := by decide +kernel
theorem dL_law_1141 : decode cL_law 1141 = .ok (.iload 4, 2) := by decide +kernel
theorem dL_law_1143 : decode cL_law 1143 = .ok (.iconst 1, 1) := by decide +kernel
theorem dL_law_1144 : decode cL_law 1144 = .ok (.iadd, 1) := by decide +kernel
theorem dL_law_1145 : decode cL_law 1145 = .ok (.iaload, 1) := by decide +kernel
theorem dL_law_1146 : decode cL_law 1146 = .ok (.aload_n 0, 1) := by decide +kernel
theorem dL_law_1147 : decode cL_law 1147 = .ok (.iload 4, 2) := by decide +kernel
theorem dL_law_1149 : decode cL_law 1149 = .ok (.iconst 2, 1) := by decide +kernel
theorem dL_law_1150 : decode cL_law 1150 = .ok (.iadd, 1) := by decide +kernel
theorem dL_law_1151 : decode cL_law 1151 = .ok (.iaload, 1) := by decide +kernel
theorem dL_law_1152 : decode cL_law 1152 = .ok (.aload_n 3, 1) := by decide +kernel
theorem dL_law_1153 : decode cL_law 1153 = .ok (.invokestatic 156, 3) := by decide +kernel
theorem dL_law_1156 : decode cL_law 1156 = .ok (.istore 5, 2) := by decide +kernel
theorem dL_law_1158 : decode cL_law 1158 = .ok (.aload_n 2, 1) := by decide +kernel
theorem dL_law_1159 : decode cL_law 1159 = .ok (.aload_n 0, 1) := by decide +kernel
theorem dL_law_1160 : decode cL_law 1160 = .ok (.iload 4, 2) := by decide +kernel
theorem dL_law_1162 : decode cL_law 1162 = .ok (.iconst 1, 1) := by decide +kernel
theorem dL_law_1163 : decode cL_law 1163 = .ok (.iadd, 1) := by decide +kernel
theorem dL_law_1164 : decode cL_law 1164 = .ok (.iaload, 1) := by decide +kernel
theorem dL_law_1165 : decode cL_law 1165 = .ok (.aload_n 0, 1) := by decide +kernel
theorem dL_law_1166 : decode cL_law 1166 = .ok (.iload 4, 2) := by decide +kernel
theorem dL_law_1168 : decode cL_law 1168 = .ok (.iconst 2, 1) := by decide +kernel
theorem dL_law_1169 : decode cL_law 1169 = .ok (.iadd, 1) := by decide +kernel
theorem dL_law_1170 : decode cL_law 1170 = .ok (.iaload, 1) := by decide +kernel
theorem dL_law_1171 : decode cL_law 1171 = .ok (.invokevirtual 158, 3) := by decide +kernel
theorem dL_law_1174 : decode cL_law 1174 = .ok (.istore 6, 2) := by decide +kernel
theorem dL_law_1176 : decode cL_law 1176 = .ok (.aload_n 2, 1) := by decide +kernel
theorem dL_law_1177 : decode cL_law 1177 = .ok (.invokevirtual 94, 3) := by decide +kernel
theorem dL_law_1180 : decode cL_law 1180 = .ok (.iload 5, 2) := by decide +kernel
theorem dL_law_1182 : decode cL_law 1182 = .ok (.if_icmp .eq 5, 3) := by decide +kernel
theorem dL_law_1185 : decode cL_law 1185 = .ok (.iconst 0, 1) := by decide +kernel
theorem dL_law_1186 : decode cL_law 1186 = .ok (.ireturn, 1) := by decide +kernel
theorem dL_law_1187 : decode cL_law 1187 = .ok (.iload 5, 2) := by decide +kernel
theorem dL_law_1189 : decode cL_law 1189 = .ok (.ifCond .ne 15, 3) := by decide +kernel
theorem dL_law_1192 : decode cL_law 1192 = .ok (.aload_n 3, 1) := by decide +kernel
theorem dL_law_1193 : decode cL_law 1193 = .ok (.iconst 0, 1) := by decide +kernel
theorem dL_law_1194 : decode cL_law 1194 = .ok (.laload, 1) := by decide +kernel
theorem dL_law_1195 : decode cL_law 1195 = .ok (.iload 6, 2) := by decide +kernel
theorem dL_law_1197 : decode cL_law 1197 = .ok (.i2l, 1) := by decide +kernel
theorem dL_law_1198 : decode cL_law 1198 = .ok (.lcmp, 1) := by decide +kernel
theorem dL_law_1199 : decode cL_law 1199 = .ok (.ifCond .eq 5, 3) := by decide +kernel
theorem dL_law_1202 : decode cL_law 1202 = .ok (.iconst 0, 1) := by decide +kernel
theorem dL_law_1203 : decode cL_law 1203 = .ok (.ireturn, 1) := by decide +kernel
theorem dL_law_1204 : decode cL_law 1204 = .ok (.goto 412, 3) := by decide +kernel
theorem dL_law_1207 : decode cL_law 1207 = .ok (.aload_n 1, 1) := by decide +kernel
theorem dL_law_1208 : decode cL_law 1208 = .ok (.aload_n 0, 1) := by decide +kernel
theorem dL_law_1209 : decode cL_law 1209 = .ok (.iload 4, 2) := by decide +kernel
theorem dL_law_1211 : decode cL_law 1211 = .ok (.iconst 1, 1) := by decide +kernel
theorem dL_law_1212 : decode cL_law 1212 = .ok (.iadd, 1) := by decide +kernel
theorem dL_law_1213 : decode cL_law 1213 = .ok (.iaload, 1) := by decide +kernel
theorem dL_law_1214 : decode cL_law 1214 = .ok (.aload_n 3, 1) := by decide +kernel
theorem dL_law_1215 : decode cL_law 1215 = .ok (.invokestatic 159, 3) := by decide +kernel
theorem dL_law_1218 : decode cL_law 1218 = .ok (.istore 5, 2) := by decide +kernel
theorem dL_law_1220 : decode cL_law 1220 = .ok (.aload_n 2, 1) := by decide +kernel
theorem dL_law_1221 : decode cL_law 1221 = .ok (.aload_n 0, 1) := by decide +kernel
theorem dL_law_1222 : decode cL_law 1222 = .ok (.iload 4, 2) := by decide +kernel
theorem dL_law_1224 : decode cL_law 1224 = .ok (.iconst 1, 1) := by decide +kernel
theorem dL_law_1225 : decode cL_law 1225 = .ok (.iadd, 1) := by decide +kernel
theorem dL_law_1226 : decode cL_law 1226 = .ok (.iaload, 1) := by decide +kernel
theorem dL_law_1227 : decode cL_law 1227 = .ok (.invokevirtual 161, 3) := by decide +kernel
theorem dL_law_1230 : decode cL_law 1230 = .ok (.istore 6, 2) := by decide +kernel
theorem dL_law_1232 : decode cL_law 1232 = .ok (.aload_n 2, 1) := by decide +kernel
theorem dL_law_1233 : decode cL_law 1233 = .ok (.invokevirtual 94, 3) := by decide +kernel
theorem dL_law_1236 : decode cL_law 1236 = .ok (.iload 5, 2) := by decide +kernel
theorem dL_law_1238 : decode cL_law 1238 = .ok (.if_icmp .eq 5, 3) := by decide +kernel
theorem dL_law_1241 : decode cL_law 1241 = .ok (.iconst 0, 1) := by decide +kernel
theorem dL_law_1242 : decode cL_law 1242 = .ok (.ireturn, 1) := by decide +kernel
theorem dL_law_1243 : decode cL_law 1243 = .ok (.iload 5, 2) := by decide +kernel
theorem dL_law_1245 : decode cL_law 1245 = .ok (.ifCond .ne 15, 3) := by decide +kernel
theorem dL_law_1248 : decode cL_law 1248 = .ok (.aload_n 3, 1) := by decide +kernel
theorem dL_law_1249 : decode cL_law 1249 = .ok (.iconst 0, 1) := by decide +kernel
theorem dL_law_1250 : decode cL_law 1250 = .ok (.laload, 1) := by decide +kernel
theorem dL_law_1251 : decode cL_law 1251 = .ok (.iload 6, 2) := by decide +kernel
theorem dL_law_1253 : decode cL_law 1253 = .ok (.i2l, 1) := by decide +kernel
theorem dL_law_1254 : decode cL_law 1254 = .ok (.lcmp, 1) := by decide +kernel
theorem dL_law_1255 : decode cL_law 1255 = .ok (.ifCond .eq 5, 3) := by decide +kernel
theorem dL_law_1258 : decode cL_law 1258 = .ok (.iconst 0, 1) := by decide +kernel
theorem dL_law_1259 : decode cL_law 1259 = .ok (.ireturn, 1) := by decide +kernel
theorem dL_law_1260 : decode cL_law 1260 = .ok (.goto 356, 3) := by decide +kernel
theorem dL_law_1263 : decode cL_law 1263 = .ok (.aload_n 1, 1) := by decide +kernel
theorem dL_law_1264 : decode cL_law 1264 = .ok (.aload_n 0, 1) := by decide +kernel
theorem dL_law_1265 : decode cL_law 1265 = .ok (.iload 4, 2) := by decide +kernel
theorem dL_law_1267 : decode cL_law 1267 = .ok (.iconst 1, 1) := by decide +kernel
theorem dL_law_1268 : decode cL_law 1268 = .ok (.iadd, 1) := by decide +kernel
theorem dL_law_1269 : decode cL_law 1269 = .ok (.iaload, 1) := by decide +kernel
theorem dL_law_1270 : decode cL_law 1270 = .ok (.aload_n 0, 1) := by decide +kernel
theorem dL_law_1271 : decode cL_law 1271 = .ok (.iload 4, 2) := by decide +kernel
theorem dL_law_1273 : decode cL_law 1273 = .ok (.iconst 2, 1) := by decide +kernel
theorem dL_law_1274 : decode cL_law 1274 = .ok (.iadd, 1) := by decide +kernel
theorem dL_law_1275 : decode cL_law 1275 = .ok (.iaload, 1) := by decide +kernel
theorem dL_law_1276 : decode cL_law 1276 = .ok (.aload_n 3, 1) := by decide +kernel
theorem dL_law_1277 : decode cL_law 1277 = .ok (.invokestatic 162, 3) := by decide +kernel
theorem dL_law_1280 : decode cL_law 1280 = .ok (.istore 5, 2) := by decide +kernel
theorem dL_law_1282 : decode cL_law 1282 = .ok (.aload_n 2, 1) := by decide +kernel
theorem dL_law_1283 : decode cL_law 1283 = .ok (.aload_n 0, 1) := by decide +kernel
theorem dL_law_1284 : decode cL_law 1284 = .ok (.iload 4, 2) := by decide +kernel
theorem dL_law_1286 : decode cL_law 1286 = .ok (.iconst 1, 1) := by decide +kernel
theorem dL_law_1287 : decode cL_law 1287 = .ok (.iadd, 1) := by decide +kernel
theorem dL_law_1288 : decode cL_law 1288 = .ok (.iaload, 1) := by decide +kernel
theorem dL_law_1289 : decode cL_law 1289 = .ok (.aload_n 0, 1) := by decide +kernel
theorem dL_law_1290 : decode cL_law 1290 = .ok (.iload 4, 2) := by decide +kernel
theorem dL_law_1292 : decode cL_law 1292 = .ok (.iconst 2, 1) := by decide +kernel
theorem dL_law_1293 : decode cL_law 1293 = .ok (.iadd, 1) := by decide +kernel
theorem dL_law_1294 : decode cL_law 1294 = .ok (.iaload, 1) := by decide +kernel
theorem dL_law_1295 : decode cL_law 1295 = .ok (.invokevirtual 164, 3) := by decide +kernel
theorem dL_law_1298 : decode cL_law 1298 = .ok (.istore 6, 2) := by decide +kernel
theorem dL_law_1300 : decode cL_law 1300 = .ok (.aload_n 2, 1) := by decide +kernel
theorem dL_law_1301 : decode cL_law 1301 = .ok (.invokevirtual 94, 3) := by decide +kernel
theorem dL_law_1304 : decode cL_law 1304 = .ok (.iload 5, 2) := by decide +kernel
theorem dL_law_1306 : decode cL_law 1306 = .ok (.if_icmp .eq 5, 3) := by decide +kernel
theorem dL_law_1309 : decode cL_law 1309 = .ok (.iconst 0, 1) := by decide +kernel
theorem dL_law_1310 : decode cL_law 1310 = .ok (.ireturn, 1) := by decide +kernel
theorem dL_law_1311 : decode cL_law 1311 = .ok (.iload 5, 2) := by decide +kernel
theorem dL_law_1313 : decode cL_law 1313 = .ok (.ifCond .ne 15, 3) := by decide +kernel
theorem dL_law_1316 : decode cL_law 1316 = .ok (.aload_n 3, 1) := by decide +kernel
theorem dL_law_1317 : decode cL_law 1317 = .ok (.iconst 0, 1) := by decide +kernel
theorem dL_law_1318 : decode cL_law 1318 = .ok (.laload, 1) := by decide +kernel
theorem dL_law_1319 : decode cL_law 1319 = .ok (.iload 6, 2) := by decide +kernel
theorem dL_law_1321 : decode cL_law 1321 = .ok (.i2l, 1) := by decide +kernel
theorem dL_law_1322 : decode cL_law 1322 = .ok (.lcmp, 1) := by decide +kernel
theorem dL_law_1323 : decode cL_law 1323 = .ok (.ifCond .eq 5, 3) := by decide +kernel
theorem dL_law_1326 : decode cL_law 1326 = .ok (.iconst 0, 1) := by decide +kernel
theorem dL_law_1327 : decode cL_law 1327 = .ok (.ireturn, 1) := by decide +kernel
theorem dL_law_1328 : decode cL_law 1328 = .ok (.goto 288, 3) := by decide +kernel
theorem dL_law_1331 : decode cL_law 1331 = .ok (.aload_n 1, 1) := by decide +kernel
theorem dL_law_1332 : decode cL_law 1332 = .ok (.aload_n 0, 1) := by decide +kernel
theorem dL_law_1333 : decode cL_law 1333 = .ok (.iload 4, 2) := by decide +kernel
theorem dL_law_1335 : decode cL_law 1335 = .ok (.iconst 1, 1) := by decide +kernel
theorem dL_law_1336 : decode cL_law 1336 = .ok (.iadd, 1) := by decide +kernel
theorem dL_law_1337 : decode cL_law 1337 = .ok (.iaload, 1) := by decide +kernel
theorem dL_law_1338 : decode cL_law 1338 = .ok (.aload_n 0, 1) := by decide +kernel
theorem dL_law_1339 : decode cL_law 1339 = .ok (.iload 4, 2) := by decide +kernel
theorem dL_law_1341 : decode cL_law 1341 = .ok (.iconst 2, 1) := by decide +kernel
theorem dL_law_1342 : decode cL_law 1342 = .ok (.iadd, 1) := by decide +kernel
theorem dL_law_1343 : decode cL_law 1343 = .ok (.iaload, 1) := by decide +kernel
theorem dL_law_1344 : decode cL_law 1344 = .ok (.aload_n 3, 1) := by decide +kernel
theorem dL_law_1345 : decode cL_law 1345 = .ok (.invokestatic 165, 3) := by decide +kernel
theorem dL_law_1348 : decode cL_law 1348 = .ok (.istore 5, 2) := by decide +kernel
theorem dL_law_1350 : decode cL_law 1350 = .ok (.aload_n 2, 1) := by decide +kernel
theorem dL_law_1351 : decode cL_law 1351 = .ok (.aload_n 0, 1) := by decide +kernel
theorem dL_law_1352 : decode cL_law 1352 = .ok (.iload 4, 2) := by decide +kernel
theorem dL_law_1354 : decode cL_law 1354 = .ok (.iconst 1, 1) := by decide +kernel
theorem dL_law_1355 : decode cL_law 1355 = .ok (.iadd, 1) := by decide +kernel
theorem dL_law_1356 : decode cL_law 1356 = .ok (.iaload, 1) := by decide +kernel
theorem dL_law_1357 : decode cL_law 1357 = .ok (.aload_n 0, 1) := by decide +kernel
theorem dL_law_1358 : decode cL_law 1358 = .ok (.iload 4, 2) := by decide +kernel
theorem dL_law_1360 : decode cL_law 1360 = .ok (.iconst 2, 1) := by decide +kernel
theorem dL_law_1361 : decode cL_law 1361 = .ok (.iadd, 1) := by decide +kernel
theorem dL_law_1362 : decode cL_law 1362 = .ok (.iaload, 1) := by decide +kernel
theorem dL_law_1363 : decode cL_law 1363 = .ok (.invokevirtual 167, 3) := by decide +kernel
theorem dL_law_1366 : decode cL_law 1366 = .ok (.istore 6, 2) := by decide +kernel
theorem dL_law_1368 : decode cL_law 1368 = .ok (.aload_n 2, 1) := by decide +kernel
theorem dL_law_1369 : decode cL_law 1369 = .ok (.invokevirtual 94, 3) := by decide +kernel
theorem dL_law_1372 : decode cL_law 1372 = .ok (.iload 5, 2) := by decide +kernel
theorem dL_law_1374 : decode cL_law 1374 = .ok (.if_icmp .eq 5, 3) := by decide +kernel
theorem dL_law_1377 : decode cL_law 1377 = .ok (.iconst 0, 1) := by decide +kernel
theorem dL_law_1378 : decode cL_law 1378 = .ok (.ireturn, 1) := by decide +kernel
theorem dL_law_1379 : decode cL_law 1379 = .ok (.iload 5, 2) := by decide +kernel
theorem dL_law_1381 : decode cL_law 1381 = .ok (.ifCond .ne 15, 3) := by decide +kernel
theorem dL_law_1384 : decode cL_law 1384 = .ok (.aload_n 3, 1) := by decide +kernel
theorem dL_law_1385 : decode cL_law 1385 = .ok (.iconst 0, 1) := by decide +kernel
theorem dL_law_1386 : decode cL_law 1386 = .ok (.laload, 1) := by decide +kernel
theorem dL_law_1387 : decode cL_law 1387 = .ok (.iload 6, 2) := by decide +kernel
theorem dL_law_1389 : decode cL_law 1389 = .ok (.i2l, 1) := by decide +kernel
theorem dL_law_1390 : decode cL_law 1390 = .ok (.lcmp, 1) := by decide +kernel
theorem dL_law_1391 : decode cL_law 1391 = .ok (.ifCond .eq 5, 3) := by decide +kernel
theorem dL_law_1394 : decode cL_law 1394 = .ok (.iconst 0, 1) := by decide +kernel
theorem dL_law_1395 : decode cL_law 1395 = .ok (.ireturn, 1) := by decide +kernel
theorem dL_law_1396 : decode cL_law 1396 = .ok (.goto 220, 3) := by decide +kernel
theorem dL_law_1399 : decode cL_law 1399 = .ok (.aload_n 1, 1) := by decide +kernel
theorem dL_law_1400 : decode cL_law 1400 = .ok (.aload_n 0, 1) := by decide +kernel
theorem dL_law_1401 : decode cL_law 1401 = .ok (.iload 4, 2) := by decide +kernel
theorem dL_law_1403 : decode cL_law 1403 = .ok (.iconst 1, 1) := by decide +kernel
theorem dL_law_1404 : decode cL_law 1404 = .ok (.iadd, 1) := by decide +kernel
theorem dL_law_1405 : decode cL_law 1405 = .ok (.iaload, 1) := by decide +kernel
theorem dL_law_1406 : decode cL_law 1406 = .ok (.aload_n 0, 1) := by decide +kernel
theorem dL_law_1407 : decode cL_law 1407 = .ok (.iload 4, 2) := by decide +kernel
theorem dL_law_1409 : decode cL_law 1409 = .ok (.iconst 2, 1) := by decide +kernel
theorem dL_law_1410 : decode cL_law 1410 = .ok (.iadd, 1) := by decide +kernel
theorem dL_law_1411 : decode cL_law 1411 = .ok (.iaload, 1) := by decide +kernel
theorem dL_law_1412 : decode cL_law 1412 = .ok (.aload_n 3, 1) := by decide +kernel
theorem dL_law_1413 : decode cL_law 1413 = .ok (.invokestatic 168, 3) := by decide +kernel
theorem dL_law_1416 : decode cL_law 1416 = .ok (.istore 5, 2) := by decide +kernel
theorem dL_law_1418 : decode cL_law 1418 = .ok (.aload_n 2, 1) := by decide +kernel
theorem dL_law_1419 : decode cL_law 1419 = .ok (.aload_n 0, 1) := by decide +kernel
theorem dL_law_1420 : decode cL_law 1420 = .ok (.iload 4, 2) := by decide +kernel
theorem dL_law_1422 : decode cL_law 1422 = .ok (.iconst 1, 1) := by decide +kernel
theorem dL_law_1423 : decode cL_law 1423 = .ok (.iadd, 1) := by decide +kernel
theorem dL_law_1424 : decode cL_law 1424 = .ok (.iaload, 1) := by decide +kernel
theorem dL_law_1425 : decode cL_law 1425 = .ok (.aload_n 0, 1) := by decide +kernel
theorem dL_law_1426 : decode cL_law 1426 = .ok (.iload 4, 2) := by decide +kernel
theorem dL_law_1428 : decode cL_law 1428 = .ok (.iconst 2, 1) := by decide +kernel
theorem dL_law_1429 : decode cL_law 1429 = .ok (.iadd, 1) := by decide +kernel
theorem dL_law_1430 : decode cL_law 1430 = .ok (.iaload, 1) := by decide +kernel
theorem dL_law_1431 : decode cL_law 1431 = .ok (.invokevirtual 170, 3) := by decide +kernel
theorem dL_law_1434 : decode cL_law 1434 = .ok (.istore 6, 2) := by decide +kernel
theorem dL_law_1436 : decode cL_law 1436 = .ok (.aload_n 2, 1) := by decide +kernel
theorem dL_law_1437 : decode cL_law 1437 = .ok (.invokevirtual 94, 3) := by decide +kernel
theorem dL_law_1440 : decode cL_law 1440 = .ok (.iload 5, 2) := by decide +kernel
theorem dL_law_1442 : decode cL_law 1442 = .ok (.if_icmp .eq 5, 3) := by decide +kernel
theorem dL_law_1445 : decode cL_law 1445 = .ok (.iconst 0, 1) := by decide +kernel
theorem dL_law_1446 : decode cL_law 1446 = .ok (.ireturn, 1) := by decide +kernel
theorem dL_law_1447 : decode cL_law 1447 = .ok (.iload 5, 2) := by decide +kernel
theorem dL_law_1449 : decode cL_law 1449 = .ok (.ifCond .ne 15, 3) := by decide +kernel
theorem dL_law_1452 : decode cL_law 1452 = .ok (.aload_n 3, 1) := by decide +kernel
theorem dL_law_1453 : decode cL_law 1453 = .ok (.iconst 0, 1) := by decide +kernel
theorem dL_law_1454 : decode cL_law 1454 = .ok (.laload, 1) := by decide +kernel
theorem dL_law_1455 : decode cL_law 1455 = .ok (.iload 6, 2) := by decide +kernel
theorem dL_law_1457 : decode cL_law 1457 = .ok (.i2l, 1) := by decide +kernel
theorem dL_law_1458 : decode cL_law 1458 = .ok (.lcmp, 1) := by decide +kernel
theorem dL_law_1459 : decode cL_law 1459 = .ok (.ifCond .eq 5, 3) := by decide +kernel
theorem dL_law_1462 : decode cL_law 1462 = .ok (.iconst 0, 1) := by decide +kernel
theorem dL_law_1463 : decode cL_law 1463 = .ok (.ireturn, 1) := by decide +kernel
theorem dL_law_1464 : decode cL_law 1464 = .ok (.goto 152, 3) := by decide +kernel
theorem dL_law_1467 : decode cL_law 1467 = .ok (.aload_n 1, 1) := by decide +kernel
theorem dL_law_1468 : decode cL_law 1468 = .ok (.invokevirtual 171, 3) := by decide +kernel
theorem dL_law_1471 : decode cL_law 1471 = .ok (.aload_n 2, 1) := by decide +kernel
theorem dL_law_1472 : decode cL_law 1472 = .ok (.invokevirtual 174, 3) := by decide +kernel
theorem dL_law_1475 : decode cL_law 1475 = .ok (.if_icmp .eq 141, 3) := by decide +kernel
theorem dL_law_1478 : decode cL_law 1478 = .ok (.iconst 0, 1) := by decide +kernel
theorem dL_law_1479 : decode cL_law 1479 = .ok (.ireturn, 1) := by decide +kernel
theorem dL_law_1480 : decode cL_law 1480 = .ok (.aload_n 1, 1) := by decide +kernel
theorem dL_law_1481 : decode cL_law 1481 = .ok (.aload_n 0, 1) := by decide +kernel
theorem dL_law_1482 : decode cL_law 1482 = .ok (.iload 4, 2) := by decide +kernel
theorem dL_law_1484 : decode cL_law 1484 = .ok (.iconst 1, 1) := by decide +kernel
theorem dL_law_1485 : decode cL_law 1485 = .ok (.iadd, 1) := by decide +kernel
theorem dL_law_1486 : decode cL_law 1486 = .ok (.iaload, 1) := by decide +kernel
theorem dL_law_1487 : decode cL_law 1487 = .ok (.aload_n 0, 1) := by decide +kernel
theorem dL_law_1488 : decode cL_law 1488 = .ok (.iload 4, 2) := by decide +kernel
theorem dL_law_1490 : decode cL_law 1490 = .ok (.iconst 2, 1) := by decide +kernel
theorem dL_law_1491 : decode cL_law 1491 = .ok (.iadd, 1) := by decide +kernel
theorem dL_law_1492 : decode cL_law 1492 = .ok (.iaload, 1) := by decide +kernel
theorem dL_law_1493 : decode cL_law 1493 = .ok (.aload_n 3, 1) := by decide +kernel
theorem dL_law_1494 : decode cL_law 1494 = .ok (.invokestatic 175, 3) := by decide +kernel
theorem dL_law_1497 : decode cL_law 1497 = .ok (.istore 5, 2) := by decide +kernel
theorem dL_law_1499 : decode cL_law 1499 = .ok (.aload_n 2, 1) := by decide +kernel
theorem dL_law_1500 : decode cL_law 1500 = .ok (.aload_n 0, 1) := by decide +kernel
theorem dL_law_1501 : decode cL_law 1501 = .ok (.iload 4, 2) := by decide +kernel
theorem dL_law_1503 : decode cL_law 1503 = .ok (.iconst 1, 1) := by decide +kernel
theorem dL_law_1504 : decode cL_law 1504 = .ok (.iadd, 1) := by decide +kernel
theorem dL_law_1505 : decode cL_law 1505 = .ok (.iaload, 1) := by decide +kernel
theorem dL_law_1506 : decode cL_law 1506 = .ok (.aload_n 0, 1) := by decide +kernel
theorem dL_law_1507 : decode cL_law 1507 = .ok (.iload 4, 2) := by decide +kernel
theorem dL_law_1509 : decode cL_law 1509 = .ok (.iconst 2, 1) := by decide +kernel
theorem dL_law_1510 : decode cL_law 1510 = .ok (.iadd, 1) := by decide +kernel
theorem dL_law_1511 : decode cL_law 1511 = .ok (.iaload, 1) := by decide +kernel
theorem dL_law_1512 : decode cL_law 1512 = .ok (.invokevirtual 177, 3) := by decide +kernel
theorem dL_law_1515 : decode cL_law 1515 = .ok (.istore 6, 2) := by decide +kernel
theorem dL_law_1517 : decode cL_law 1517 = .ok (.aload_n 2, 1) := by decide +kernel
theorem dL_law_1518 : decode cL_law 1518 = .ok (.invokevirtual 94, 3) := by decide +kernel
theorem dL_law_1521 : decode cL_law 1521 = .ok (.iload 5, 2) := by decide +kernel
theorem dL_law_1523 : decode cL_law 1523 = .ok (.if_icmp .eq 5, 3) := by decide +kernel
theorem dL_law_1526 : decode cL_law 1526 = .ok (.iconst 0, 1) := by decide +kernel
theorem dL_law_1527 : decode cL_law 1527 = .ok (.ireturn, 1) := by decide +kernel
theorem dL_law_1528 : decode cL_law 1528 = .ok (.iload 5, 2) := by decide +kernel
theorem dL_law_1530 : decode cL_law 1530 = .ok (.ifCond .ne 15, 3) := by decide +kernel
theorem dL_law_1533 : decode cL_law 1533 = .ok (.aload_n 3, 1) := by decide +kernel
theorem dL_law_1534 : decode cL_law 1534 = .ok (.iconst 0, 1) := by decide +kernel
theorem dL_law_1535 : decode cL_law 1535 = .ok (.laload, 1) := by decide +kernel
theorem dL_law_1536 : decode cL_law 1536 = .ok (.iload 6, 2) := by decide +kernel
theorem dL_law_1538 : decode cL_law 1538 = .ok (.i2l, 1) := by decide +kernel
theorem dL_law_1539 : decode cL_law 1539 = .ok (.lcmp, 1) := by decide +kernel
theorem dL_law_1540 : decode cL_law 1540 = .ok (.ifCond .eq 5, 3) := by decide +kernel
theorem dL_law_1543 : decode cL_law 1543 = .ok (.iconst 0, 1) := by decide +kernel
theorem dL_law_1544 : decode cL_law 1544 = .ok (.ireturn, 1) := by decide +kernel
theorem dL_law_1545 : decode cL_law 1545 = .ok (.goto 71, 3) := by decide +kernel
theorem dL_law_1548 : decode cL_law 1548 = .ok (.aload_n 1, 1) := by decide +kernel
theorem dL_law_1549 : decode cL_law 1549 = .ok (.invokevirtual 178, 3) := by decide +kernel
theorem dL_law_1552 : decode cL_law 1552 = .ok (.aload_n 2, 1) := by decide +kernel
theorem dL_law_1553 : decode cL_law 1553 = .ok (.invokevirtual 181, 3) := by decide +kernel
theorem dL_law_1556 : decode cL_law 1556 = .ok (.if_icmp .eq 60, 3) := by decide +kernel
theorem dL_law_1559 : decode cL_law 1559 = .ok (.iconst 0, 1) := by decide +kernel
theorem dL_law_1560 : decode cL_law 1560 = .ok (.ireturn, 1) := by decide +kernel
theorem dL_law_1561 : decode cL_law 1561 = .ok (.aload_n 1, 1) := by decide +kernel
theorem dL_law_1562 : decode cL_law 1562 = .ok (.invokevirtual 182, 3) := by decide +kernel
theorem dL_law_1565 : decode cL_law 1565 = .ok (.dstore 5, 2) := by decide +kernel
theorem dL_law_1567 : decode cL_law 1567 = .ok (.aload_n 2, 1) := by decide +kernel
theorem dL_law_1568 : decode cL_law 1568 = .ok (.invokevirtual 186, 3) := by decide +kernel
theorem dL_law_1571 : decode cL_law 1571 = .ok (.dstore 7, 2) := by decide +kernel
theorem dL_law_1573 : decode cL_law 1573 = .ok (.dload 5, 2) := by decide +kernel
theorem dL_law_1575 : decode cL_law 1575 = .ok (.dload 7, 2) := by decide +kernel
theorem dL_law_1577 : decode cL_law 1577 = .ok (.dcmp .l, 1) := by decide +kernel
theorem dL_law_1578 : decode cL_law 1578 = .ok (.ifCond .eq 21, 3) := by decide +kernel
theorem dL_law_1581 : decode cL_law 1581 = .ok (.dload 5, 2) := by decide +kernel
theorem dL_law_1583 : decode cL_law 1583 = .ok (.dload 5, 2) := by decide +kernel
theorem dL_law_1585 : decode cL_law 1585 = .ok (.dcmp .l, 1) := by decide +kernel
theorem dL_law_1586 : decode cL_law 1586 = .ok (.ifCond .eq 11, 3) := by decide +kernel
theorem dL_law_1589 : decode cL_law 1589 = .ok (.dload 7, 2) := by decide +kernel
theorem dL_law_1591 : decode cL_law 1591 = .ok (.dload 7, 2) := by decide +kernel
theorem dL_law_1593 : decode cL_law 1593 = .ok (.dcmp .l, 1) := by decide +kernel
theorem dL_law_1594 : decode cL_law 1594 = .ok (.ifCond .ne 5, 3) := by decide +kernel
theorem dL_law_1597 : decode cL_law 1597 = .ok (.iconst 0, 1) := by decide +kernel
theorem dL_law_1598 : decode cL_law 1598 = .ok (.ireturn, 1) := by decide +kernel
theorem dL_law_1599 : decode cL_law 1599 = .ok (.goto 17, 3) := by decide +kernel
theorem dL_law_1602 : decode cL_law 1602 = .ok (.aload_n 1, 1) := by decide +kernel
theorem dL_law_1603 : decode cL_law 1603 = .ok (.invokevirtual 187, 3) := by decide +kernel
theorem dL_law_1606 : decode cL_law 1606 = .ok (.aload_n 2, 1) := by decide +kernel
theorem dL_law_1607 : decode cL_law 1607 = .ok (.invokevirtual 191, 3) := by decide +kernel
theorem dL_law_1610 : decode cL_law 1610 = .ok (.lcmp, 1) := by decide +kernel
theorem dL_law_1611 : decode cL_law 1611 = .ok (.ifCond .eq 5, 3) := by decide +kernel
theorem dL_law_1614 : decode cL_law 1614 = .ok (.iconst 0, 1) := by decide +kernel
theorem dL_law_1615 : decode cL_law 1615 = .ok (.ireturn, 1) := by decide +kernel
theorem dL_law_1616 : decode cL_law 1616 = .ok (.iinc 4 3, 3) := by decide +kernel
theorem dL_law_1619 : decode cL_law 1619 = .ok (.goto (-1596), 3) := by decide +kernel
theorem dL_law_1622 : decode cL_law 1622 = .ok (.iconst 1, 1) := by decide +kernel
theorem dL_law_1623 : decode cL_law 1623 = .ok (.ireturn, 1) := by decide +kernel
