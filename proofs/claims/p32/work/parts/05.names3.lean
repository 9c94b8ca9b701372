theorem lg_wsX1_number_0 : GoodIn wsX1_number ([.fieldLink RX1 25 "MolesLawn$Mole" "air" "I", .fieldLink RX1 22 "MolesLawn$Mole" "planned" "I", .fieldLink RX1 9 "MolesLawn$Mole" "directions" "[I", .fieldLink RX1 15 "MolesLawn$Mole" "trail" "[I", .fieldLink RX1 18 "MolesLawn$Mole" "trailLength" "I", .fieldLink RX1 28 "MolesLawn$Mole" "steps" "I", .methodLink RX1 37 yX1_place, .instanceMethod yX1_place, .selects RX1 yX1_place yX1_place, .initialized RX1, .code yX1_place cX1_place 1 (some .int)] : List Cond) := goodIn_sub (fun _ h => (List.mem_cons_of_mem _ (List.mem_append_left _ h))) (by decide +kernel)
theorem ls_wsX1_number_0 : GoodIn wsX1_number wsX10 := goodIn_sub (fun _ h => (List.mem_cons_of_mem _ (List.mem_append_right _ h))) (by decide +kernel)
set_option maxRecDepth 20000 in
theorem ggX1_number_X1_place : GoodIn wsX1_number wsX1_place := (gi_cons (lg_wsX1_number_0 _ (List.mem_of_getElem? (i := 10) rfl)) (goodIn_app (gi_cons (lg_wsX1_number_0 _ (List.mem_of_getElem? (i := 3) rfl)) (gi_cons (lg_wsX1_number_0 _ (List.mem_of_getElem? (i := 4) rfl)) gi_nil)) ls_wsX1_number_0))
set_option maxRecDepth 20000 in
theorem gX1_number_X1_place : GoodIn wsX1_number (wsV RX1 37 RX1 yX1_place wsX1_place) := goodIn_app (gi_cons (lg_wsX1_number_0 _ (List.mem_of_getElem? (i := 6) rfl)) (gi_cons (lg_wsX1_number_0 _ (List.mem_of_getElem? (i := 7) rfl)) (gi_cons (lg_wsX1_number_0 _ (List.mem_of_getElem? (i := 8) rfl)) (gi_cons (lg_wsX1_number_0 _ (List.mem_of_getElem? (i := 9) rfl)) gi_nil)))) ggX1_number_X1_place
theorem dX1_number_0 : decode cX1_number 0 = .ok (.iload_n 1, 1) := by decide +kernel
theorem dX1_number_1 : decode cX1_number 1 = .ok (.tableswitch 84 0 5 #[39, 44, 49, 54, 72, 79], 39) := by decide +kernel
theorem dX1_number_40 : decode cX1_number 40 = .ok (.aload_n 0, 1) := by decide +kernel
theorem dX1_number_41 : decode cX1_number 41 = .ok (.invokevirtual 37, 3) := by decide +kernel
theorem dX1_number_44 : decode cX1_number 44 = .ok (.ireturn, 1) := by decide +kernel
theorem dX1_number_45 : decode cX1_number 45 = .ok (.aload_n 0, 1) := by decide +kernel
theorem dX1_number_46 : decode cX1_number 46 = .ok (.getfield 25, 3) := by decide +kernel
theorem dX1_number_49 : decode cX1_number 49 = .ok (.ireturn, 1) := by decide +kernel
theorem dX1_number_50 : decode cX1_number 50 = .ok (.aload_n 0, 1) := by decide +kernel
theorem dX1_number_51 : decode cX1_number 51 = .ok (.getfield 22, 3) := by decide +kernel
theorem dX1_number_54 : decode cX1_number 54 = .ok (.ireturn, 1) := by decide +kernel
theorem dX1_number_55 : decode cX1_number 55 = .ok (.aload_n 0, 1) := by decide +kernel
theorem dX1_number_56 : decode cX1_number 56 = .ok (.getfield 22, 3) := by decide +kernel
theorem dX1_number_59 : decode cX1_number 59 = .ok (.ifCond .le 12, 3) := by decide +kernel
theorem dX1_number_62 : decode cX1_number 62 = .ok (.aload_n 0, 1) := by decide +kernel
theorem dX1_number_63 : decode cX1_number 63 = .ok (.getfield 9, 3) := by decide +kernel
theorem dX1_number_66 : decode cX1_number 66 = .ok (.iconst 0, 1) := by decide +kernel
theorem dX1_number_67 : decode cX1_number 67 = .ok (.iaload, 1) := by decide +kernel
theorem dX1_number_68 : decode cX1_number 68 = .ok (.goto 4, 3) := by decide +kernel
theorem dX1_number_71 : decode cX1_number 71 = .ok (.iconst (-1), 1) := by decide +kernel
theorem dX1_number_72 : decode cX1_number 72 = .ok (.ireturn, 1) := by decide +kernel
theorem dX1_number_73 : decode cX1_number 73 = .ok (.aload_n 0, 1) := by decide +kernel
theorem dX1_number_74 : decode cX1_number 74 = .ok (.getfield 15, 3) := by decide +kernel
theorem dX1_number_77 : decode cX1_number 77 = .ok (.iconst 0, 1) := by decide +kernel
theorem dX1_number_78 : decode cX1_number 78 = .ok (.iaload, 1) := by decide +kernel
theorem dX1_number_79 : decode cX1_number 79 = .ok (.ireturn, 1) := by decide +kernel
theorem dX1_number_80 : decode cX1_number 80 = .ok (.aload_n 0, 1) := by decide +kernel
theorem dX1_number_81 : decode cX1_number 81 = .ok (.getfield 18, 3) := by decide +kernel
theorem dX1_number_84 : decode cX1_number 84 = .ok (.ireturn, 1) := by decide +kernel
theorem dX1_number_85 : decode cX1_number 85 = .ok (.aload_n 0, 1) := by decide +kernel
theorem dX1_number_86 : decode cX1_number 86 = .ok (.getfield 28, 3) := by decide +kernel
theorem dX1_number_89 : decode cX1_number 89 = .ok (.ireturn, 1) := by decide +kernel
theorem dX1_addDirection_0 : decode cX1_addDirection 0 = .ok (.aload_n 0, 1) := by decide +kernel
theorem dX1_addDirection_1 : decode cX1_addDirection 1 = .ok (.getfield 22, 3) := by decide +kernel
theorem dX1_addDirection_4 : decode cX1_addDirection 4 = .ok (.bipush 20, 2) := by decide +kernel
theorem dX1_addDirection_6 : decode cX1_addDirection 6 = .ok (.if_icmp .ge 23, 3) := by decide +kernel
theorem dX1_addDirection_9 : decode cX1_addDirection 9 = .ok (.aload_n 0, 1) := by decide +kernel
theorem dX1_addDirection_10 : decode cX1_addDirection 10 = .ok (.getfield 9, 3) := by decide +kernel
theorem dX1_addDirection_13 : decode cX1_addDirection 13 = .ok (.aload_n 0, 1) := by decide +kernel
theorem dX1_addDirection_14 : decode cX1_addDirection 14 = .ok (.getfield 22, 3) := by decide +kernel
theorem dX1_addDirection_17 : decode cX1_addDirection 17 = .ok (.iload_n 1, 1) := by decide +kernel
theorem dX1_addDirection_18 : decode cX1_addDirection 18 = .ok (.iastore, 1) := by decide +kernel
theorem dX1_addDirection_19 : decode cX1_addDirection 19 = .ok (.aload_n 0, 1) := by decide +kernel
theorem dX1_addDirection_20 : decode cX1_addDirection 20 = .ok (.dup, 1) := by decide +kernel
theorem dX1_addDirection_21 : decode cX1_addDirection 21 = .ok (.getfield 22, 3) := by decide +kernel
theorem dX1_addDirection_24 : decode cX1_addDirection 24 = .ok (.iconst 1, 1) := by decide +kernel
theorem dX1_addDirection_25 : decode cX1_addDirection 25 = .ok (.iadd, 1) := by decide +kernel
theorem dX1_addDirection_26 : decode cX1_addDirection 26 = .ok (.putfield 22, 3) := by decide +kernel
theorem dX1_addDirection_29 : decode cX1_addDirection 29 = .ok (.return_, 1) := by decide +kernel
theorem dX1_dropDirection_0 : decode cX1_dropDirection 0 = .ok (.iconst 1, 1) := by decide +kernel
theorem dX1_dropDirection_1 : decode cX1_dropDirection 1 = .ok (.istore_n 1, 1) := by decide +kernel
theorem dX1_dropDirection_2 : decode cX1_dropDirection 2 = .ok (.iload_n 1, 1) := by decide +kernel
theorem dX1_dropDirection_3 : decode cX1_dropDirection 3 = .ok (.aload_n 0, 1) := by decide +kernel
theorem dX1_dropDirection_4 : decode cX1_dropDirection 4 = .ok (.getfield 22, 3) := by decide +kernel
theorem dX1_dropDirection_7 : decode cX1_dropDirection 7 = .ok (.if_icmp .ge 23, 3) := by decide +kernel
theorem dX1_dropDirection_10 : decode cX1_dropDirection 10 = .ok (.aload_n 0, 1) := by decide +kernel
theorem dX1_dropDirection_11 : decode cX1_dropDirection 11 = .ok (.getfield 9, 3) := by decide +kernel
theorem dX1_dropDirection_14 : decode cX1_dropDirection 14 = .ok (.iload_n 1, 1) := by decide +kernel
theorem dX1_dropDirection_15 : decode cX1_dropDirection 15 = .ok (.iconst 1, 1) := by decide +kernel
theorem dX1_dropDirection_16 : decode cX1_dropDirection 16 = .ok (.isub, 1) := by decide +kernel
theorem dX1_dropDirection_17 : decode cX1_dropDirection 17 = .ok (.aload_n 0, 1) := by decide +kernel
theorem dX1_dropDirection_18 : decode cX1_dropDirection 18 = .ok (.getfield 9, 3) := by decide +kernel
theorem dX1_dropDirection_21 : decode cX1_dropDirection 21 = .ok (.iload_n 1, 1) := by decide +kernel
theorem dX1_dropDirection_22 : decode cX1_dropDirection 22 = .ok (.iaload, 1) := by decide +kernel
theorem dX1_dropDirection_23 : decode cX1_dropDirection 23 = .ok (.iastore, 1) := by decide +kernel
theorem dX1_dropDirection_24 : decode cX1_dropDirection 24 = .ok (.iinc 1 1, 3) := by decide +kernel
theorem dX1_dropDirection_27 : decode cX1_dropDirection 27 = .ok (.goto (-25), 3) := by decide +kernel
theorem dX1_dropDirection_30 : decode cX1_dropDirection 30 = .ok (.aload_n 0, 1) := by decide +kernel
theorem dX1_dropDirection_31 : decode cX1_dropDirection 31 = .ok (.aload_n 0, 1) := by decide +kernel
theorem dX1_dropDirection_32 : decode cX1_dropDirection 32 = .ok (.getfield 22, 3) := by decide +kernel
theorem dX1_dropDirection_35 : decode cX1_dropDirection 35 = .ok (.ifCond .le 12, 3) := by decide +kernel
theorem dX1_dropDirection_38 : decode cX1_dropDirection 38 = .ok (.aload_n 0, 1) := by decide +kernel
theorem dX1_dropDirection_39 : decode cX1_dropDirection 39 = .ok (.getfield 22, 3) := by decide +kernel
theorem dX1_dropDirection_42 : decode cX1_dropDirection 42 = .ok (.iconst 1, 1) := by decide +kernel
theorem dX1_dropDirection_43 : decode cX1_dropDirection 43 = .ok (.isub, 1) := by decide +kernel
theorem dX1_dropDirection_44 : decode cX1_dropDirection 44 = .ok (.goto 4, 3) := by decide +kernel
theorem dX1_dropDirection_47 : decode cX1_dropDirection 47 = .ok (.iconst 0, 1) := by decide +kernel
theorem dX1_dropDirection_48 : decode cX1_dropDirection 48 = .ok (.putfield 22, 3) := by decide +kernel
theorem dX1_dropDirection_51 : decode cX1_dropDirection 51 = .ok (.return_, 1) := by decide +kernel
theorem dX1_beginTrail_0 : decode cX1_beginTrail 0 = .ok (.aload_n 0, 1) := by decide +kernel
theorem dX1_beginTrail_1 : decode cX1_beginTrail 1 = .ok (.getfield 15, 3) := by decide +kernel
theorem dX1_beginTrail_4 : decode cX1_beginTrail 4 = .ok (.iconst 0, 1) := by decide +kernel
theorem dX1_beginTrail_5 : decode cX1_beginTrail 5 = .ok (.iload_n 1, 1) := by decide +kernel
theorem dX1_beginTrail_6 : decode cX1_beginTrail 6 = .ok (.iastore, 1) := by decide +kernel
theorem dX1_beginTrail_7 : decode cX1_beginTrail 7 = .ok (.aload_n 0, 1) := by decide +kernel
theorem dX1_beginTrail_8 : decode cX1_beginTrail 8 = .ok (.iconst 1, 1) := by decide +kernel
theorem dX1_beginTrail_9 : decode cX1_beginTrail 9 = .ok (.putfield 18, 3) := by decide +kernel
theorem dX1_beginTrail_12 : decode cX1_beginTrail 12 = .ok (.return_, 1) := by decide +kernel
theorem dX1_go_0 : decode cX1_go 0 = .ok (.aload_n 0, 1) := by decide +kernel
theorem dX1_go_1 : decode cX1_go 1 = .ok (.dup, 1) := by decide +kernel
theorem dX1_go_2 : decode cX1_go 2 = .ok (.getfield 28, 3) := by decide +kernel
theorem dX1_go_5 : decode cX1_go 5 = .ok (.iconst 1, 1) := by decide +kernel
theorem dX1_go_6 : decode cX1_go 6 = .ok (.iadd, 1) := by decide +kernel
theorem dX1_go_7 : decode cX1_go 7 = .ok (.putfield 28, 3) := by decide +kernel
theorem dX1_go_10 : decode cX1_go 10 = .ok (.aload_n 0, 1) := by decide +kernel
theorem dX1_go_11 : decode cX1_go 11 = .ok (.getfield 18, 3) := by decide +kernel
theorem dX1_go_14 : decode cX1_go 14 = .ok (.bipush 21, 2) := by decide +kernel
theorem dX1_go_16 : decode cX1_go 16 = .ok (.if_icmp .ge 13, 3) := by decide +kernel
theorem dX1_go_19 : decode cX1_go 19 = .ok (.aload_n 0, 1) := by decide +kernel
theorem dX1_go_20 : decode cX1_go 20 = .ok (.dup, 1) := by decide +kernel
theorem dX1_go_21 : decode cX1_go 21 = .ok (.getfield 18, 3) := by decide +kernel
theorem dX1_go_24 : decode cX1_go 24 = .ok (.iconst 1, 1) := by decide +kernel
theorem dX1_go_25 : decode cX1_go 25 = .ok (.iadd, 1) := by decide +kernel
theorem dX1_go_26 : decode cX1_go 26 = .ok (.putfield 18, 3) := by decide +kernel
theorem dX1_go_29 : decode cX1_go 29 = .ok (.aload_n 0, 1) := by decide +kernel
theorem dX1_go_30 : decode cX1_go 30 = .ok (.getfield 15, 3) := by decide +kernel
theorem dX1_go_33 : decode cX1_go 33 = .ok (.aload_n 0, 1) := by decide +kernel
theorem dX1_go_34 : decode cX1_go 34 = .ok (.getfield 18, 3) := by decide +kernel
theorem dX1_go_37 : decode cX1_go 37 = .ok (.iconst 1, 1) := by decide +kernel
theorem dX1_go_38 : decode cX1_go 38 = .ok (.isub, 1) := by decide +kernel
theorem dX1_go_39 : decode cX1_go 39 = .ok (.iload_n 1, 1) := by decide +kernel
theorem dX1_go_40 : decode cX1_go 40 = .ok (.iastore, 1) := by decide +kernel
theorem dX1_go_41 : decode cX1_go 41 = .ok (.return_, 1) := by decide +kernel
theorem dX1_firstIndex_0 : decode cX1_firstIndex 0 = .ok (.iconst 0, 1) := by decide +kernel
theorem dX1_firstIndex_1 : decode cX1_firstIndex 1 = .ok (.istore_n 2, 1) := by decide +kernel
theorem dX1_firstIndex_2 : decode cX1_firstIndex 2 = .ok (.iload_n 2, 1) := by decide +kernel
theorem dX1_firstIndex_3 : decode cX1_firstIndex 3 = .ok (.aload_n 0, 1) := by decide +kernel
theorem dX1_firstIndex_4 : decode cX1_firstIndex 4 = .ok (.getfield 18, 3) := by decide +kernel
theorem dX1_firstIndex_7 : decode cX1_firstIndex 7 = .ok (.if_icmp .ge 21, 3) := by decide +kernel
theorem dX1_firstIndex_10 : decode cX1_firstIndex 10 = .ok (.aload_n 0, 1) := by decide +kernel
theorem dX1_firstIndex_11 : decode cX1_firstIndex 11 = .ok (.getfield 15, 3) := by decide +kernel
theorem dX1_firstIndex_14 : decode cX1_firstIndex 14 = .ok (.iload_n 2, 1) := by decide +kernel
theorem dX1_firstIndex_15 : decode cX1_firstIndex 15 = .ok (.iaload, 1) := by decide +kernel
theorem dX1_firstIndex_16 : decode cX1_firstIndex 16 = .ok (.iload_n 1, 1) := by decide +kernel
theorem dX1_firstIndex_17 : decode cX1_firstIndex 17 = .ok (.if_icmp .ne 5, 3) := by decide +kernel
theorem dX1_firstIndex_20 : decode cX1_firstIndex 20 = .ok (.iload_n 2, 1) := by decide +kernel
theorem dX1_firstIndex_21 : decode cX1_firstIndex 21 = .ok (.ireturn, 1) := by decide +kernel
theorem dX1_firstIndex_22 : decode cX1_firstIndex 22 = .ok (.iinc 2 1, 3) := by decide +kernel
theorem dX1_firstIndex_25 : decode cX1_firstIndex 25 = .ok (.goto (-23), 3) := by decide +kernel
theorem dX1_firstIndex_28 : decode cX1_firstIndex 28 = .ok (.iconst (-1), 1) := by decide +kernel
theorem dX1_firstIndex_29 : decode cX1_firstIndex 29 = .ok (.ireturn, 1) := by decide +kernel
theorem dX1_dropBeforeLast_0 : decode cX1_dropBeforeLast 0 = .ok (.aload_n 0, 1) := by decide +kernel
theorem dX1_dropBeforeLast_1 : decode cX1_dropBeforeLast 1 = .ok (.getfield 18, 3) := by decide +kernel
theorem dX1_dropBeforeLast_4 : decode cX1_dropBeforeLast 4 = .ok (.iconst 1, 1) := by decide +kernel
theorem dX1_dropBeforeLast_5 : decode cX1_dropBeforeLast 5 = .ok (.isub, 1) := by decide +kernel
theorem dX1_dropBeforeLast_6 : decode cX1_dropBeforeLast 6 = .ok (.istore_n 2, 1) := by decide +kernel
theorem dX1_dropBeforeLast_7 : decode cX1_dropBeforeLast 7 = .ok (.iload_n 2, 1) := by decide +kernel
theorem dX1_dropBeforeLast_8 : decode cX1_dropBeforeLast 8 = .ok (.ifCond .le 19, 3) := by decide +kernel
theorem dX1_dropBeforeLast_11 : decode cX1_dropBeforeLast 11 = .ok (.aload_n 0, 1) := by decide +kernel
theorem dX1_dropBeforeLast_12 : decode cX1_dropBeforeLast 12 = .ok (.getfield 15, 3) := by decide +kernel
theorem dX1_dropBeforeLast_15 : decode cX1_dropBeforeLast 15 = .ok (.iload_n 2, 1) := by decide +kernel
theorem dX1_dropBeforeLast_16 : decode cX1_dropBeforeLast 16 = .ok (.iaload, 1) := by decide +kernel
theorem dX1_dropBeforeLast_17 : decode cX1_dropBeforeLast 17 = .ok (.iload_n 1, 1) := by decide +kernel
theorem dX1_dropBeforeLast_18 : decode cX1_dropBeforeLast 18 = .ok (.if_icmp .eq 9, 3) := by decide +kernel
theorem dX1_dropBeforeLast_21 : decode cX1_dropBeforeLast 21 = .ok (.iinc 2 (-1), 3) := by decide +kernel
theorem dX1_dropBeforeLast_24 : decode cX1_dropBeforeLast 24 = .ok (.goto (-17), 3) := by decide +kernel
theorem dX1_dropBeforeLast_27 : decode cX1_dropBeforeLast 27 = .ok (.aload_n 0, 1) := by decide +kernel
theorem dX1_dropBeforeLast_28 : decode cX1_dropBeforeLast 28 = .ok (.dup, 1) := by decide +kernel
theorem dX1_dropBeforeLast_29 : decode cX1_dropBeforeLast 29 = .ok (.getfield 18, 3) := by decide +kernel
theorem dX1_dropBeforeLast_32 : decode cX1_dropBeforeLast 32 = .ok (.iload_n 2, 1) := by decide +kernel
theorem dX1_dropBeforeLast_33 : decode cX1_dropBeforeLast 33 = .ok (.isub, 1) := by decide +kernel
theorem dX1_dropBeforeLast_34 : decode cX1_dropBeforeLast 34 = .ok (.putfield 18, 3) := by decide +kernel
theorem dX1_dropBeforeLast_37 : decode cX1_dropBeforeLast 37 = .ok (.iconst 0, 1) := by decide +kernel
theorem dX1_dropBeforeLast_38 : decode cX1_dropBeforeLast 38 = .ok (.istore_n 3, 1) := by decide +kernel
theorem dX1_dropBeforeLast_39 : decode cX1_dropBeforeLast 39 = .ok (.iload_n 3, 1) := by decide +kernel
theorem dX1_dropBeforeLast_40 : decode cX1_dropBeforeLast 40 = .ok (.aload_n 0, 1) := by decide +kernel
theorem dX1_dropBeforeLast_41 : decode cX1_dropBeforeLast 41 = .ok (.getfield 18, 3) := by decide +kernel
theorem dX1_dropBeforeLast_44 : decode cX1_dropBeforeLast 44 = .ok (.if_icmp .ge 23, 3) := by decide +kernel
theorem dX1_dropBeforeLast_47 : decode cX1_dropBeforeLast 47 = .ok (.aload_n 0, 1) := by decide +kernel
theorem dX1_dropBeforeLast_48 : decode cX1_dropBeforeLast 48 = .ok (.getfield 15, 3) := by decide +kernel
theorem dX1_dropBeforeLast_51 : decode cX1_dropBeforeLast 51 = .ok (.iload_n 3, 1) := by decide +kernel
theorem dX1_dropBeforeLast_52 : decode cX1_dropBeforeLast 52 = .ok (.aload_n 0, 1) := by decide +kernel
theorem dX1_dropBeforeLast_53 : decode cX1_dropBeforeLast 53 = .ok (.getfield 15, 3) := by decide +kernel
theorem dX1_dropBeforeLast_56 : decode cX1_dropBeforeLast 56 = .ok (.iload_n 3, 1) := by decide +kernel
theorem dX1_dropBeforeLast_57 : decode cX1_dropBeforeLast 57 = .ok (.iload_n 2, 1) := by decide +kernel
theorem dX1_dropBeforeLast_58 : decode cX1_dropBeforeLast 58 = .ok (.iadd, 1) := by decide +kernel
theorem dX1_dropBeforeLast_59 : decode cX1_dropBeforeLast 59 = .ok (.iaload, 1) := by decide +kernel
theorem dX1_dropBeforeLast_60 : decode cX1_dropBeforeLast 60 = .ok (.iastore, 1) := by decide +kernel
theorem dX1_dropBeforeLast_61 : decode cX1_dropBeforeLast 61 = .ok (.iinc 3 1, 3) := by decide +kernel
theorem dX1_dropBeforeLast_64 : decode cX1_dropBeforeLast 64 = .ok (.goto (-25), 3) := by decide +kernel
theorem dX1_dropBeforeLast_67 : decode cX1_dropBeforeLast 67 = .ok (.return_, 1) := by decide +kernel
theorem dX2_init_0 : decode cX2_init 0 = .ok (.aload_n 0, 1) := by decide +kernel
theorem dX2_init_1 : decode cX2_init 1 = .ok (.invokespecial 3, 3) := by decide +kernel
theorem dX2_init_4 : decode cX2_init 4 = .ok (.aload_n 0, 1) := by decide +kernel
theorem dX2_init_5 : decode cX2_init 5 = .ok (.bipush 64, 2) := by decide +kernel
theorem dX2_init_7 : decode cX2_init 7 = .ok (.newarray .int, 2) := by decide +kernel
theorem dX2_init_9 : decode cX2_init 9 = .ok (.putfield 9, 3) := by decide +kernel
theorem dX2_init_12 : decode cX2_init 12 = .ok (.aload_n 0, 1) := by decide +kernel
theorem dX2_init_13 : decode cX2_init 13 = .ok (.bipush 64, 2) := by decide +kernel
theorem dX2_init_15 : decode cX2_init 15 = .ok (.newarray .int, 2) := by decide +kernel
theorem dX2_init_17 : decode cX2_init 17 = .ok (.putfield 15, 3) := by decide +kernel
theorem dX2_init_20 : decode cX2_init 20 = .ok (.return_, 1) := by decide +kernel
theorem lg_wsX2_measure_0 : GoodIn wsX2_measure wsX2_measure_r1 := goodIn_sub (fun _ h => (List.mem_cons_of_mem _ (List.mem_append_left _ (List.mem_append_left _ (List.mem_append_left _ (List.mem_append_left _ h)))))) (by decide +kernel)
theorem lg_wsX2_measure_1 : GoodIn wsX2_measure wsX2_measure_r2 := goodIn_sub (fun _ h => (List.mem_cons_of_mem _ (List.mem_append_left _ (List.mem_append_left _ (List.mem_append_left _ (List.mem_append_right _ h)))))) (by decide +kernel)
theorem ls_wsX2_measure_0 : GoodIn wsX2_measure wsX20 := goodIn_sub (fun _ h => (List.mem_cons_of_mem _ (List.mem_append_left _ (List.mem_append_left _ (List.mem_append_right _ h))))) (by decide +kernel)
theorem ls_wsX2_measure_1 : GoodIn wsX2_measure wsX00 := goodIn_sub (fun _ h => (List.mem_cons_of_mem _ (List.mem_append_left _ (List.mem_append_right _ h)))) (by decide +kernel)
theorem ls_wsX2_measure_2 : GoodIn wsX2_measure wsX30 := goodIn_sub (fun _ h => (List.mem_cons_of_mem _ (List.mem_append_right _ h))) (by decide +kernel)
set_option maxRecDepth 20000 in
theorem ggX2_measure_X3_first : GoodIn wsX2_measure wsX3_first := (gi_cons (lg_wsX2_measure_0 _ (List.mem_of_getElem? (i := 8) rfl)) (goodIn_app (gi_cons (lg_wsX2_measure_0 _ (List.mem_of_getElem? (i := 9) rfl)) (gi_cons (lg_wsX2_measure_0 _ (List.mem_of_getElem? (i := 10) rfl)) (gi_cons (lg_wsX2_measure_0 _ (List.mem_of_getElem? (i := 11) rfl)) (gi_cons (lg_wsX2_measure_0 _ (List.mem_of_getElem? (i := 7) rfl)) (gi_cons (lg_wsX2_measure_0 _ (List.mem_of_getElem? (i := 12) rfl)) (gi_cons (lg_wsX2_measure_0 _ (List.mem_of_getElem? (i := 13) rfl)) (gi_cons (lg_wsX2_measure_0 _ (List.mem_of_getElem? (i := 14) rfl)) (gi_cons (lg_wsX2_measure_0 _ (List.mem_of_getElem? (i := 15) rfl)) (gi_cons (lg_wsX2_measure_0 _ (List.mem_of_getElem? (i := 16) rfl)) (gi_cons (lg_wsX2_measure_0 _ (List.mem_of_getElem? (i := 17) rfl)) (gi_cons (lg_wsX2_measure_0 _ (List.mem_of_getElem? (i := 18) rfl)) (gi_cons (lg_wsX2_measure_0 _ (List.mem_of_getElem? (i := 19) rfl)) (gi_cons (lg_wsX2_measure_0 _ (List.mem_of_getElem? (i := 20) rfl)) (gi_cons (lg_wsX2_measure_0 _ (List.mem_of_getElem? (i := 21) rfl)) (gi_cons (lg_wsX2_measure_0 _ (List.mem_of_getElem? (i := 22) rfl)) (gi_cons (lg_wsX2_measure_0 _ (List.mem_of_getElem? (i := 23) rfl)) gi_nil)))))))))))))))) ls_wsX2_measure_2))
set_option maxRecDepth 20000 in
theorem gX2_measure_X3_first : GoodIn wsX2_measure (wsV RX2 34 RX3 yX3_first wsX3_first) := goodIn_app (gi_cons (lg_wsX2_measure_0 _ (List.mem_of_getElem? (i := 4) rfl)) (gi_cons (lg_wsX2_measure_0 _ (List.mem_of_getElem? (i := 5) rfl)) (gi_cons (lg_wsX2_measure_0 _ (List.mem_of_getElem? (i := 6) rfl)) (gi_cons (lg_wsX2_measure_0 _ (List.mem_of_getElem? (i := 7) rfl)) gi_nil)))) ggX2_measure_X3_first
set_option maxRecDepth 20000 in
theorem ggX2_measure_X3_last : GoodIn wsX2_measure wsX3_last := (gi_cons (lg_wsX2_measure_1 _ (List.mem_of_getElem? (i := 3) rfl)) (goodIn_app (gi_cons (lg_wsX2_measure_0 _ (List.mem_of_getElem? (i := 14) rfl)) (gi_cons (lg_wsX2_measure_0 _ (List.mem_of_getElem? (i := 15) rfl)) (gi_cons (lg_wsX2_measure_0 _ (List.mem_of_getElem? (i := 16) rfl)) (gi_cons (lg_wsX2_measure_0 _ (List.mem_of_getElem? (i := 7) rfl)) (gi_cons (lg_wsX2_measure_0 _ (List.mem_of_getElem? (i := 17) rfl)) (gi_cons (lg_wsX2_measure_0 _ (List.mem_of_getElem? (i := 18) rfl)) (gi_cons (lg_wsX2_measure_0 _ (List.mem_of_getElem? (i := 19) rfl)) (gi_cons (lg_wsX2_measure_0 _ (List.mem_of_getElem? (i := 20) rfl)) (gi_cons (lg_wsX2_measure_0 _ (List.mem_of_getElem? (i := 21) rfl)) (gi_cons (lg_wsX2_measure_0 _ (List.mem_of_getElem? (i := 22) rfl)) (gi_cons (lg_wsX2_measure_0 _ (List.mem_of_getElem? (i := 23) rfl)) (gi_cons (lg_wsX2_measure_0 _ (List.mem_of_getElem? (i := 9) rfl)) (gi_cons (lg_wsX2_measure_0 _ (List.mem_of_getElem? (i := 10) rfl)) (gi_cons (lg_wsX2_measure_0 _ (List.mem_of_getElem? (i := 11) rfl)) (gi_cons (lg_wsX2_measure_0 _ (List.mem_of_getElem? (i := 12) rfl)) (gi_cons (lg_wsX2_measure_0 _ (List.mem_of_getElem? (i := 13) rfl)) gi_nil)))))))))))))))) ls_wsX2_measure_2))
set_option maxRecDepth 20000 in
theorem gX2_measure_X3_last : GoodIn wsX2_measure (wsV RX2 38 RX3 yX3_last wsX3_last) := goodIn_app (gi_cons (lg_wsX2_measure_1 _ (List.mem_of_getElem? (i := 0) rfl)) (gi_cons (lg_wsX2_measure_1 _ (List.mem_of_getElem? (i := 1) rfl)) (gi_cons (lg_wsX2_measure_1 _ (List.mem_of_getElem? (i := 2) rfl)) (gi_cons (lg_wsX2_measure_0 _ (List.mem_of_getElem? (i := 7) rfl)) gi_nil)))) ggX2_measure_X3_last
set_option maxRecDepth 20000 in
theorem ggX2_measure_X2_isTuft : GoodIn wsX2_measure wsX2_isTuft := (gi_cons (lg_wsX2_measure_1 _ (List.mem_of_getElem? (i := 7) rfl)) gi_nil)
set_option maxRecDepth 20000 in
theorem gX2_measure_X2_isTuft : GoodIn wsX2_measure (va_wsS RX2 41 yX2_isTuft wsX2_isTuft) := goodIn_app (gi_cons (lg_wsX2_measure_1 _ (List.mem_of_getElem? (i := 4) rfl)) (gi_cons (lg_wsX2_measure_1 _ (List.mem_of_getElem? (i := 5) rfl)) (gi_cons (lg_wsX2_measure_1 _ (List.mem_of_getElem? (i := 6) rfl)) gi_nil))) ggX2_measure_X2_isTuft
set_option maxRecDepth 20000 in
theorem ggX2_measure_X2_reach : GoodIn wsX2_measure wsX2_reach := (gi_cons (lg_wsX2_measure_1 _ (List.mem_of_getElem? (i := 11) rfl)) (goodIn_app (gi_cons (lg_wsX2_measure_0 _ (List.mem_of_getElem? (i := 0) rfl)) gi_nil) ls_wsX2_measure_0))
set_option maxRecDepth 20000 in
theorem gX2_measure_X2_reach : GoodIn wsX2_measure (wsV RX2 45 RX2 yX2_reach wsX2_reach) := goodIn_app (gi_cons (lg_wsX2_measure_1 _ (List.mem_of_getElem? (i := 8) rfl)) (gi_cons (lg_wsX2_measure_1 _ (List.mem_of_getElem? (i := 9) rfl)) (gi_cons (lg_wsX2_measure_1 _ (List.mem_of_getElem? (i := 10) rfl)) (gi_cons (lg_wsX2_measure_1 _ (List.mem_of_getElem? (i := 6) rfl)) gi_nil)))) ggX2_measure_X2_reach
theorem dX2_measure_0 : decode cX2_measure 0 = .ok (.iconst 0, 1) := by decide +kernel
theorem dX2_measure_1 : decode cX2_measure 1 = .ok (.istore_n 3, 1) := by decide +kernel
theorem dX2_measure_2 : decode cX2_measure 2 = .ok (.iload_n 3, 1) := by decide +kernel
theorem dX2_measure_3 : decode cX2_measure 3 = .ok (.bipush 64, 2) := by decide +kernel
theorem dX2_measure_5 : decode cX2_measure 5 = .ok (.if_icmp .ge 16, 3) := by decide +kernel
theorem dX2_measure_8 : decode cX2_measure 8 = .ok (.aload_n 0, 1) := by decide +kernel
theorem dX2_measure_9 : decode cX2_measure 9 = .ok (.getfield 9, 3) := by decide +kernel
theorem dX2_measure_12 : decode cX2_measure 12 = .ok (.iload_n 3, 1) := by decide +kernel
theorem dX2_measure_13 : decode cX2_measure 13 = .ok (.iconst (-1), 1) := by decide +kernel
theorem dX2_measure_14 : decode cX2_measure 14 = .ok (.iastore, 1) := by decide +kernel
theorem dX2_measure_15 : decode cX2_measure 15 = .ok (.iinc 3 1, 3) := by decide +kernel
theorem dX2_measure_18 : decode cX2_measure 18 = .ok (.goto (-16), 3) := by decide +kernel
theorem dX2_measure_21 : decode cX2_measure 21 = .ok (.aload_n 1, 1) := by decide +kernel
theorem dX2_measure_22 : decode cX2_measure 22 = .ok (.getfield 18, 3) := by decide +kernel
theorem dX2_measure_25 : decode cX2_measure 25 = .ok (.iload_n 2, 1) := by decide +kernel
theorem dX2_measure_26 : decode cX2_measure 26 = .ok (.baload, 1) := by decide +kernel
theorem dX2_measure_27 : decode cX2_measure 27 = .ok (.ifCond .ne 4, 3) := by decide +kernel
theorem dX2_measure_30 : decode cX2_measure 30 = .ok (.return_, 1) := by decide +kernel
theorem dX2_measure_31 : decode cX2_measure 31 = .ok (.aload_n 0, 1) := by decide +kernel
theorem dX2_measure_32 : decode cX2_measure 32 = .ok (.getfield 9, 3) := by decide +kernel
theorem dX2_measure_35 : decode cX2_measure 35 = .ok (.iload_n 2, 1) := by decide +kernel
theorem dX2_measure_36 : decode cX2_measure 36 = .ok (.iconst 0, 1) := by decide +kernel
theorem dX2_measure_37 : decode cX2_measure 37 = .ok (.iastore, 1) := by decide +kernel
theorem dX2_measure_38 : decode cX2_measure 38 = .ok (.iconst 1, 1) := by decide +kernel
theorem dX2_measure_39 : decode cX2_measure 39 = .ok (.istore_n 3, 1) := by decide +kernel
theorem dX2_measure_40 : decode cX2_measure 40 = .ok (.iconst 0, 1) := by decide +kernel
theorem dX2_measure_41 : decode cX2_measure 41 = .ok (.istore 4, 2) := by decide +kernel
theorem dX2_measure_43 : decode cX2_measure 43 = .ok (.iload_n 3, 1) := by decide +kernel
theorem dX2_measure_44 : decode cX2_measure 44 = .ok (.ifCond .eq 92, 3) := by decide +kernel
theorem dX2_measure_47 : decode cX2_measure 47 = .ok (.iload 4, 2) := by decide +kernel
theorem dX2_measure_49 : decode cX2_measure 49 = .ok (.bipush 64, 2) := by decide +kernel
theorem dX2_measure_51 : decode cX2_measure 51 = .ok (.if_icmp .ge 85, 3) := by decide +kernel
theorem dX2_measure_54 : decode cX2_measure 54 = .ok (.iconst 0, 1) := by decide +kernel
theorem dX2_measure_55 : decode cX2_measure 55 = .ok (.istore_n 3, 1) := by decide +kernel
theorem dX2_measure_56 : decode cX2_measure 56 = .ok (.iconst 0, 1) := by decide +kernel
theorem dX2_measure_57 : decode cX2_measure 57 = .ok (.istore 5, 2) := by decide +kernel
theorem dX2_measure_59 : decode cX2_measure 59 = .ok (.iload 5, 2) := by decide +kernel
theorem dX2_measure_61 : decode cX2_measure 61 = .ok (.aload_n 1, 1) := by decide +kernel
theorem dX2_measure_62 : decode cX2_measure 62 = .ok (.getfield 24, 3) := by decide +kernel
theorem dX2_measure_65 : decode cX2_measure 65 = .ok (.getfield 28, 3) := by decide +kernel
theorem dX2_measure_68 : decode cX2_measure 68 = .ok (.if_icmp .ge 62, 3) := by decide +kernel
theorem dX2_measure_71 : decode cX2_measure 71 = .ok (.aload_n 1, 1) := by decide +kernel
theorem dX2_measure_72 : decode cX2_measure 72 = .ok (.getfield 24, 3) := by decide +kernel
theorem dX2_measure_75 : decode cX2_measure 75 = .ok (.iload 5, 2) := by decide +kernel
theorem dX2_measure_77 : decode cX2_measure 77 = .ok (.invokevirtual 34, 3) := by decide +kernel
theorem dX2_measure_80 : decode cX2_measure 80 = .ok (.istore 6, 2) := by decide +kernel
theorem dX2_measure_82 : decode cX2_measure 82 = .ok (.aload_n 1, 1) := by decide +kernel
theorem dX2_measure_83 : decode cX2_measure 83 = .ok (.getfield 24, 3) := by decide +kernel
theorem dX2_measure_86 : decode cX2_measure 86 = .ok (.iload 5, 2) := by decide +kernel
theorem dX2_measure_88 : decode cX2_measure 88 = .ok (.invokevirtual 38, 3) := by decide +kernel
theorem dX2_measure_91 : decode cX2_measure 91 = .ok (.istore 7, 2) := by decide +kernel
theorem dX2_measure_93 : decode cX2_measure 93 = .ok (.iload 6, 2) := by decide +kernel
theorem dX2_measure_95 : decode cX2_measure 95 = .ok (.invokestatic 41, 3) := by decide +kernel
theorem dX2_measure_98 : decode cX2_measure 98 = .ok (.ifCond .eq 26, 3) := by decide +kernel
theorem dX2_measure_101 : decode cX2_measure 101 = .ok (.iload 7, 2) := by decide +kernel
theorem dX2_measure_103 : decode cX2_measure 103 = .ok (.invokestatic 41, 3) := by decide +kernel
theorem dX2_measure_106 : decode cX2_measure 106 = .ok (.ifCond .eq 18, 3) := by decide +kernel
theorem dX2_measure_109 : decode cX2_measure 109 = .ok (.aload_n 0, 1) := by decide +kernel
theorem dX2_measure_110 : decode cX2_measure 110 = .ok (.iload 6, 2) := by decide +kernel
theorem dX2_measure_112 : decode cX2_measure 112 = .ok (.iload 7, 2) := by decide +kernel
theorem dX2_measure_114 : decode cX2_measure 114 = .ok (.iload 4, 2) := by decide +kernel
theorem dX2_measure_116 : decode cX2_measure 116 = .ok (.invokevirtual 45, 3) := by decide +kernel
theorem dX2_measure_119 : decode cX2_measure 119 = .ok (.ifCond .eq 5, 3) := by decide +kernel
theorem dX2_measure_122 : decode cX2_measure 122 = .ok (.iconst 1, 1) := by decide +kernel
theorem dX2_measure_123 : decode cX2_measure 123 = .ok (.istore_n 3, 1) := by decide +kernel
theorem dX2_measure_124 : decode cX2_measure 124 = .ok (.iinc 5 1, 3) := by decide +kernel
theorem dX2_measure_127 : decode cX2_measure 127 = .ok (.goto (-68), 3) := by decide +kernel
theorem dX2_measure_130 : decode cX2_measure 130 = .ok (.iinc 4 1, 3) := by decide +kernel
theorem dX2_measure_133 : decode cX2_measure 133 = .ok (.goto (-90), 3) := by decide +kernel
theorem dX2_measure_136 : decode cX2_measure 136 = .ok (.return_, 1) := by decide +kernel
theorem dX2_reach_0 : decode cX2_reach 0 = .ok (.aload_n 0, 1) := by decide +kernel
theorem dX2_reach_1 : decode cX2_reach 1 = .ok (.getfield 9, 3) := by decide +kernel
theorem dX2_reach_4 : decode cX2_reach 4 = .ok (.iload_n 1, 1) := by decide +kernel
theorem dX2_reach_5 : decode cX2_reach 5 = .ok (.iaload, 1) := by decide +kernel
theorem dX2_reach_6 : decode cX2_reach 6 = .ok (.iload_n 3, 1) := by decide +kernel
theorem dX2_reach_7 : decode cX2_reach 7 = .ok (.if_icmp .ne 24, 3) := by decide +kernel
theorem dX2_reach_10 : decode cX2_reach 10 = .ok (.aload_n 0, 1) := by decide +kernel
theorem dX2_reach_11 : decode cX2_reach 11 = .ok (.getfield 9, 3) := by decide +kernel
theorem dX2_reach_14 : decode cX2_reach 14 = .ok (.iload_n 2, 1) := by decide +kernel
theorem dX2_reach_15 : decode cX2_reach 15 = .ok (.iaload, 1) := by decide +kernel
theorem dX2_reach_16 : decode cX2_reach 16 = .ok (.iconst (-1), 1) := by decide +kernel
theorem dX2_reach_17 : decode cX2_reach 17 = .ok (.if_icmp .ne 14, 3) := by decide +kernel
theorem dX2_reach_20 : decode cX2_reach 20 = .ok (.aload_n 0, 1) := by decide +kernel
theorem dX2_reach_21 : decode cX2_reach 21 = .ok (.getfield 9, 3) := by decide +kernel
theorem dX2_reach_24 : decode cX2_reach 24 = .ok (.iload_n 2, 1) := by decide +kernel
theorem dX2_reach_25 : decode cX2_reach 25 = .ok (.iload_n 3, 1) := by decide +kernel
theorem dX2_reach_26 : decode cX2_reach 26 = .ok (.iconst 1, 1) := by decide +kernel
theorem dX2_reach_27 : decode cX2_reach 27 = .ok (.iadd, 1) := by decide +kernel
theorem dX2_reach_28 : decode cX2_reach 28 = .ok (.iastore, 1) := by decide +kernel
theorem dX2_reach_29 : decode cX2_reach 29 = .ok (.iconst 1, 1) := by decide +kernel
theorem dX2_reach_30 : decode cX2_reach 30 = .ok (.ireturn, 1) := by decide +kernel
theorem dX2_reach_31 : decode cX2_reach 31 = .ok (.aload_n 0, 1) := by decide +kernel
theorem dX2_reach_32 : decode cX2_reach 32 = .ok (.getfield 9, 3) := by decide +kernel
theorem dX2_reach_35 : decode cX2_reach 35 = .ok (.iload_n 2, 1) := by decide +kernel
theorem dX2_reach_36 : decode cX2_reach 36 = .ok (.iaload, 1) := by decide +kernel
theorem dX2_reach_37 : decode cX2_reach 37 = .ok (.iload_n 3, 1) := by decide +kernel
theorem dX2_reach_38 : decode cX2_reach 38 = .ok (.if_icmp .ne 24, 3) := by decide +kernel
theorem dX2_reach_41 : decode cX2_reach 41 = .ok (.aload_n 0, 1) := by decide +kernel
theorem dX2_reach_42 : decode cX2_reach 42 = .ok (.getfield 9, 3) := by decide +kernel
theorem dX2_reach_45 : decode cX2_reach 45 = .ok (.iload_n 1, 1) := by decide +kernel
theorem dX2_reach_46 : decode cX2_reach 46 = .ok (.iaload, 1) := by decide +kernel
theorem dX2_reach_47 : decode cX2_reach 47 = .ok (.iconst (-1), 1) := by decide +kernel
theorem dX2_reach_48 : decode cX2_reach 48 = .ok (.if_icmp .ne 14, 3) := by decide +kernel
theorem dX2_reach_51 : decode cX2_reach 51 = .ok (.aload_n 0, 1) := by decide +kernel
theorem dX2_reach_52 : decode cX2_reach 52 = .ok (.getfield 9, 3) := by decide +kernel
theorem dX2_reach_55 : decode cX2_reach 55 = .ok (.iload_n 1, 1) := by decide +kernel
theorem dX2_reach_56 : decode cX2_reach 56 = .ok (.iload_n 3, 1) := by decide +kernel
theorem dX2_reach_57 : decode cX2_reach 57 = .ok (.iconst 1, 1) := by decide +kernel
theorem dX2_reach_58 : decode cX2_reach 58 = .ok (.iadd, 1) := by decide +kernel
theorem dX2_reach_59 : decode cX2_reach 59 = .ok (.iastore, 1) := by decide +kernel
theorem dX2_reach_60 : decode cX2_reach 60 = .ok (.iconst 1, 1) := by decide +kernel
theorem dX2_reach_61 : decode cX2_reach 61 = .ok (.ireturn, 1) := by decide +kernel
theorem dX2_reach_62 : decode cX2_reach 62 = .ok (.iconst 0, 1) := by decide +kernel
theorem dX2_reach_63 : decode cX2_reach 63 = .ok (.ireturn, 1) := by decide +kernel
theorem lg_wsX2_groupCount_0 : GoodIn wsX2_groupCount wsX2_groupCount_r1 := goodIn_sub (fun _ h => (List.mem_cons_of_mem _ (List.mem_append_left _ (List.mem_append_left _ (List.mem_append_left _ (List.mem_append_left _ h)))))) (by decide +kernel)
theorem lg_wsX2_groupCount_1 : GoodIn wsX2_groupCount wsX2_groupCount_r2 := goodIn_sub (fun _ h => (List.mem_cons_of_mem _ (List.mem_append_left _ (List.mem_append_left _ (List.mem_append_left _ (List.mem_append_right _ h)))))) (by decide +kernel)
theorem ls_wsX2_groupCount_0 : GoodIn wsX2_groupCount wsX20 := goodIn_sub (fun _ h => (List.mem_cons_of_mem _ (List.mem_append_left _ (List.mem_append_left _ (List.mem_append_right _ h))))) (by decide +kernel)
theorem ls_wsX2_groupCount_1 : GoodIn wsX2_groupCount wsX00 := goodIn_sub (fun _ h => (List.mem_cons_of_mem _ (List.mem_append_left _ (List.mem_append_right _ h)))) (by decide +kernel)
theorem ls_wsX2_groupCount_2 : GoodIn wsX2_groupCount wsX30 := goodIn_sub (fun _ h => (List.mem_cons_of_mem _ (List.mem_append_right _ h))) (by decide +kernel)
set_option maxRecDepth 20000 in
theorem ggX2_groupCount_X0_moundCount : GoodIn wsX2_groupCount wsX0_moundCount := (gi_cons (lg_wsX2_groupCount_0 _ (List.mem_of_getElem? (i := 7) rfl)) (goodIn_app (gi_cons (lg_wsX2_groupCount_0 _ (List.mem_of_getElem? (i := 8) rfl)) gi_nil) ls_wsX2_groupCount_1))
set_option maxRecDepth 20000 in
theorem gX2_groupCount_X0_moundCount : GoodIn wsX2_groupCount (wsV RX2 49 RX0 yX0_moundCount wsX0_moundCount) := goodIn_app (gi_cons (lg_wsX2_groupCount_0 _ (List.mem_of_getElem? (i := 3) rfl)) (gi_cons (lg_wsX2_groupCount_0 _ (List.mem_of_getElem? (i := 4) rfl)) (gi_cons (lg_wsX2_groupCount_0 _ (List.mem_of_getElem? (i := 5) rfl)) (gi_cons (lg_wsX2_groupCount_0 _ (List.mem_of_getElem? (i := 6) rfl)) gi_nil)))) ggX2_groupCount_X0_moundCount
set_option maxRecDepth 20000 in
theorem ggX2_groupCount_X3_first : GoodIn wsX2_groupCount wsX3_first := (gi_cons (lg_wsX2_groupCount_0 _ (List.mem_of_getElem? (i := 13) rfl)) (goodIn_app (gi_cons (lg_wsX2_groupCount_0 _ (List.mem_of_getElem? (i := 14) rfl)) (gi_cons (lg_wsX2_groupCount_0 _ (List.mem_of_getElem? (i := 15) rfl)) (gi_cons (lg_wsX2_groupCount_0 _ (List.mem_of_getElem? (i := 16) rfl)) (gi_cons (lg_wsX2_groupCount_0 _ (List.mem_of_getElem? (i := 12) rfl)) (gi_cons (lg_wsX2_groupCount_0 _ (List.mem_of_getElem? (i := 17) rfl)) (gi_cons (lg_wsX2_groupCount_0 _ (List.mem_of_getElem? (i := 18) rfl)) (gi_cons (lg_wsX2_groupCount_0 _ (List.mem_of_getElem? (i := 19) rfl)) (gi_cons (lg_wsX2_groupCount_0 _ (List.mem_of_getElem? (i := 20) rfl)) (gi_cons (lg_wsX2_groupCount_0 _ (List.mem_of_getElem? (i := 21) rfl)) (gi_cons (lg_wsX2_groupCount_0 _ (List.mem_of_getElem? (i := 22) rfl)) (gi_cons (lg_wsX2_groupCount_0 _ (List.mem_of_getElem? (i := 23) rfl)) (gi_cons (lg_wsX2_groupCount_1 _ (List.mem_of_getElem? (i := 0) rfl)) (gi_cons (lg_wsX2_groupCount_1 _ (List.mem_of_getElem? (i := 1) rfl)) (gi_cons (lg_wsX2_groupCount_1 _ (List.mem_of_getElem? (i := 2) rfl)) (gi_cons (lg_wsX2_groupCount_1 _ (List.mem_of_getElem? (i := 3) rfl)) (gi_cons (lg_wsX2_groupCount_1 _ (List.mem_of_getElem? (i := 4) rfl)) gi_nil)))))))))))))))) ls_wsX2_groupCount_2))
set_option maxRecDepth 20000 in
theorem gX2_groupCount_X3_first : GoodIn wsX2_groupCount (wsV RX2 34 RX3 yX3_first wsX3_first) := goodIn_app (gi_cons (lg_wsX2_groupCount_0 _ (List.mem_of_getElem? (i := 9) rfl)) (gi_cons (lg_wsX2_groupCount_0 _ (List.mem_of_getElem? (i := 10) rfl)) (gi_cons (lg_wsX2_groupCount_0 _ (List.mem_of_getElem? (i := 11) rfl)) (gi_cons (lg_wsX2_groupCount_0 _ (List.mem_of_getElem? (i := 12) rfl)) gi_nil)))) ggX2_groupCount_X3_first
set_option maxRecDepth 20000 in
theorem ggX2_groupCount_X3_last : GoodIn wsX2_groupCount wsX3_last := (gi_cons (lg_wsX2_groupCount_1 _ (List.mem_of_getElem? (i := 8) rfl)) (goodIn_app (gi_cons (lg_wsX2_groupCount_0 _ (List.mem_of_getElem? (i := 19) rfl)) (gi_cons (lg_wsX2_groupCount_0 _ (List.mem_of_getElem? (i := 20) rfl)) (gi_cons (lg_wsX2_groupCount_0 _ (List.mem_of_getElem? (i := 21) rfl)) (gi_cons (lg_wsX2_groupCount_0 _ (List.mem_of_getElem? (i := 12) rfl)) (gi_cons (lg_wsX2_groupCount_0 _ (List.mem_of_getElem? (i := 22) rfl)) (gi_cons (lg_wsX2_groupCount_0 _ (List.mem_of_getElem? (i := 23) rfl)) (gi_cons (lg_wsX2_groupCount_1 _ (List.mem_of_getElem? (i := 0) rfl)) (gi_cons (lg_wsX2_groupCount_1 _ (List.mem_of_getElem? (i := 1) rfl)) (gi_cons (lg_wsX2_groupCount_1 _ (List.mem_of_getElem? (i := 2) rfl)) (gi_cons (lg_wsX2_groupCount_1 _ (List.mem_of_getElem? (i := 3) rfl)) (gi_cons (lg_wsX2_groupCount_1 _ (List.mem_of_getElem? (i := 4) rfl)) (gi_cons (lg_wsX2_groupCount_0 _ (List.mem_of_getElem? (i := 14) rfl)) (gi_cons (lg_wsX2_groupCount_0 _ (List.mem_of_getElem? (i := 15) rfl)) (gi_cons (lg_wsX2_groupCount_0 _ (List.mem_of_getElem? (i := 16) rfl)) (gi_cons (lg_wsX2_groupCount_0 _ (List.mem_of_getElem? (i := 17) rfl)) (gi_cons (lg_wsX2_groupCount_0 _ (List.mem_of_getElem? (i := 18) rfl)) gi_nil)))))))))))))))) ls_wsX2_groupCount_2))
set_option maxRecDepth 20000 in
theorem gX2_groupCount_X3_last : GoodIn wsX2_groupCount (wsV RX2 38 RX3 yX3_last wsX3_last) := goodIn_app (gi_cons (lg_wsX2_groupCount_1 _ (List.mem_of_getElem? (i := 5) rfl)) (gi_cons (lg_wsX2_groupCount_1 _ (List.mem_of_getElem? (i := 6) rfl)) (gi_cons (lg_wsX2_groupCount_1 _ (List.mem_of_getElem? (i := 7) rfl)) (gi_cons (lg_wsX2_groupCount_0 _ (List.mem_of_getElem? (i := 12) rfl)) gi_nil)))) ggX2_groupCount_X3_last
set_option maxRecDepth 20000 in
theorem ggX2_groupCount_X2_isTuft : GoodIn wsX2_groupCount wsX2_isTuft := (gi_cons (lg_wsX2_groupCount_1 _ (List.mem_of_getElem? (i := 12) rfl)) gi_nil)
set_option maxRecDepth 20000 in
theorem gX2_groupCount_X2_isTuft : GoodIn wsX2_groupCount (va_wsS RX2 41 yX2_isTuft wsX2_isTuft) := goodIn_app (gi_cons (lg_wsX2_groupCount_1 _ (List.mem_of_getElem? (i := 9) rfl)) (gi_cons (lg_wsX2_groupCount_1 _ (List.mem_of_getElem? (i := 10) rfl)) (gi_cons (lg_wsX2_groupCount_1 _ (List.mem_of_getElem? (i := 11) rfl)) gi_nil))) ggX2_groupCount_X2_isTuft
set_option maxRecDepth 20000 in
theorem ggX2_groupCount_X2_uniteGroups : GoodIn wsX2_groupCount wsX2_uniteGroups := (gi_cons (lg_wsX2_groupCount_1 _ (List.mem_of_getElem? (i := 16) rfl)) (goodIn_app (gi_cons (lg_wsX2_groupCount_0 _ (List.mem_of_getElem? (i := 0) rfl)) gi_nil) ls_wsX2_groupCount_0))
set_option maxRecDepth 20000 in
theorem gX2_groupCount_X2_uniteGroups : GoodIn wsX2_groupCount (wsV RX2 53 RX2 yX2_uniteGroups wsX2_uniteGroups) := goodIn_app (gi_cons (lg_wsX2_groupCount_1 _ (List.mem_of_getElem? (i := 13) rfl)) (gi_cons (lg_wsX2_groupCount_1 _ (List.mem_of_getElem? (i := 14) rfl)) (gi_cons (lg_wsX2_groupCount_1 _ (List.mem_of_getElem? (i := 15) rfl)) (gi_cons (lg_wsX2_groupCount_1 _ (List.mem_of_getElem? (i := 11) rfl)) gi_nil)))) ggX2_groupCount_X2_uniteGroups
theorem dX2_groupCount_0 : decode cX2_groupCount 0 = .ok (.iconst 0, 1) := by decide +kernel
theorem dX2_groupCount_1 : decode cX2_groupCount 1 = .ok (.istore_n 2, 1) := by decide +kernel
theorem dX2_groupCount_2 : decode cX2_groupCount 2 = .ok (.iload_n 2, 1) := by decide +kernel
theorem dX2_groupCount_3 : decode cX2_groupCount 3 = .ok (.bipush 64, 2) := by decide +kernel
theorem dX2_groupCount_5 : decode cX2_groupCount 5 = .ok (.if_icmp .ge 16, 3) := by decide +kernel
theorem dX2_groupCount_8 : decode cX2_groupCount 8 = .ok (.aload_n 0, 1) := by decide +kernel
theorem dX2_groupCount_9 : decode cX2_groupCount 9 = .ok (.getfield 15, 3) := by decide +kernel
theorem dX2_groupCount_12 : decode cX2_groupCount 12 = .ok (.iload_n 2, 1) := by decide +kernel
theorem dX2_groupCount_13 : decode cX2_groupCount 13 = .ok (.iload_n 2, 1) := by decide +kernel
theorem dX2_groupCount_14 : decode cX2_groupCount 14 = .ok (.iastore, 1) := by decide +kernel
theorem dX2_groupCount_15 : decode cX2_groupCount 15 = .ok (.iinc 2 1, 3) := by decide +kernel
theorem dX2_groupCount_18 : decode cX2_groupCount 18 = .ok (.goto (-16), 3) := by decide +kernel
theorem dX2_groupCount_21 : decode cX2_groupCount 21 = .ok (.aload_n 1, 1) := by decide +kernel
theorem dX2_groupCount_22 : decode cX2_groupCount 22 = .ok (.invokevirtual 49, 3) := by decide +kernel
theorem dX2_groupCount_25 : decode cX2_groupCount 25 = .ok (.istore_n 2, 1) := by decide +kernel
theorem dX2_groupCount_26 : decode cX2_groupCount 26 = .ok (.iconst 0, 1) := by decide +kernel
theorem dX2_groupCount_27 : decode cX2_groupCount 27 = .ok (.istore_n 3, 1) := by decide +kernel
theorem dX2_groupCount_28 : decode cX2_groupCount 28 = .ok (.iload_n 3, 1) := by decide +kernel
theorem dX2_groupCount_29 : decode cX2_groupCount 29 = .ok (.aload_n 1, 1) := by decide +kernel
theorem dX2_groupCount_30 : decode cX2_groupCount 30 = .ok (.getfield 24, 3) := by decide +kernel
theorem dX2_groupCount_33 : decode cX2_groupCount 33 = .ok (.getfield 28, 3) := by decide +kernel
theorem dX2_groupCount_36 : decode cX2_groupCount 36 = .ok (.if_icmp .ge 83, 3) := by decide +kernel
theorem dX2_groupCount_39 : decode cX2_groupCount 39 = .ok (.aload_n 1, 1) := by decide +kernel
theorem dX2_groupCount_40 : decode cX2_groupCount 40 = .ok (.getfield 24, 3) := by decide +kernel
theorem dX2_groupCount_43 : decode cX2_groupCount 43 = .ok (.iload_n 3, 1) := by decide +kernel
theorem dX2_groupCount_44 : decode cX2_groupCount 44 = .ok (.invokevirtual 34, 3) := by decide +kernel
theorem dX2_groupCount_47 : decode cX2_groupCount 47 = .ok (.istore 4, 2) := by decide +kernel
theorem dX2_groupCount_49 : decode cX2_groupCount 49 = .ok (.aload_n 1, 1) := by decide +kernel
theorem dX2_groupCount_50 : decode cX2_groupCount 50 = .ok (.getfield 24, 3) := by decide +kernel
theorem dX2_groupCount_53 : decode cX2_groupCount 53 = .ok (.iload_n 3, 1) := by decide +kernel
theorem dX2_groupCount_54 : decode cX2_groupCount 54 = .ok (.invokevirtual 38, 3) := by decide +kernel
theorem dX2_groupCount_57 : decode cX2_groupCount 57 = .ok (.istore 5, 2) := by decide +kernel
theorem dX2_groupCount_59 : decode cX2_groupCount 59 = .ok (.iload 4, 2) := by decide +kernel
theorem dX2_groupCount_61 : decode cX2_groupCount 61 = .ok (.invokestatic 41, 3) := by decide +kernel
theorem dX2_groupCount_64 : decode cX2_groupCount 64 = .ok (.ifCond .eq 49, 3) := by decide +kernel
theorem dX2_groupCount_67 : decode cX2_groupCount 67 = .ok (.iload 5, 2) := by decide +kernel
theorem dX2_groupCount_69 : decode cX2_groupCount 69 = .ok (.invokestatic 41, 3) := by decide +kernel
theorem dX2_groupCount_72 : decode cX2_groupCount 72 = .ok (.ifCond .eq 41, 3) := by decide +kernel
theorem dX2_groupCount_75 : decode cX2_groupCount 75 = .ok (.aload_n 0, 1) := by decide +kernel
theorem dX2_groupCount_76 : decode cX2_groupCount 76 = .ok (.getfield 15, 3) := by decide +kernel
theorem dX2_groupCount_79 : decode cX2_groupCount 79 = .ok (.iload 4, 2) := by decide +kernel
theorem dX2_groupCount_81 : decode cX2_groupCount 81 = .ok (.iaload, 1) := by decide +kernel
theorem dX2_groupCount_82 : decode cX2_groupCount 82 = .ok (.aload_n 0, 1) := by decide +kernel
theorem dX2_groupCount_83 : decode cX2_groupCount 83 = .ok (.getfield 15, 3) := by decide +kernel
theorem dX2_groupCount_86 : decode cX2_groupCount 86 = .ok (.iload 5, 2) := by decide +kernel
theorem dX2_groupCount_88 : decode cX2_groupCount 88 = .ok (.iaload, 1) := by decide +kernel
theorem dX2_groupCount_89 : decode cX2_groupCount 89 = .ok (.if_icmp .eq 24, 3) := by decide +kernel
theorem dX2_groupCount_92 : decode cX2_groupCount 92 = .ok (.aload_n 0, 1) := by decide +kernel
theorem dX2_groupCount_93 : decode cX2_groupCount 93 = .ok (.aload_n 0, 1) := by decide +kernel
theorem dX2_groupCount_94 : decode cX2_groupCount 94 = .ok (.getfield 15, 3) := by decide +kernel
theorem dX2_groupCount_97 : decode cX2_groupCount 97 = .ok (.iload 4, 2) := by decide +kernel
theorem dX2_groupCount_99 : decode cX2_groupCount 99 = .ok (.iaload, 1) := by decide +kernel
theorem dX2_groupCount_100 : decode cX2_groupCount 100 = .ok (.aload_n 0, 1) := by decide +kernel
theorem dX2_groupCount_101 : decode cX2_groupCount 101 = .ok (.getfield 15, 3) := by decide +kernel
theorem dX2_groupCount_104 : decode cX2_groupCount 104 = .ok (.iload 5, 2) := by decide +kernel
theorem dX2_groupCount_106 : decode cX2_groupCount 106 = .ok (.iaload, 1) := by decide +kernel
theorem dX2_groupCount_107 : decode cX2_groupCount 107 = .ok (.invokevirtual 53, 3) := by decide +kernel
theorem dX2_groupCount_110 : decode cX2_groupCount 110 = .ok (.iinc 2 (-1), 3) := by decide +kernel
theorem dX2_groupCount_113 : decode cX2_groupCount 113 = .ok (.iinc 3 1, 3) := by decide +kernel
theorem dX2_groupCount_116 : decode cX2_groupCount 116 = .ok (.goto (-88), 3) := by decide +kernel
theorem dX2_groupCount_119 : decode cX2_groupCount 119 = .ok (.iload_n 2, 1) := by decide +kernel
theorem dX2_groupCount_120 : decode cX2_groupCount 120 = .ok (.ireturn, 1) := by decide +kernel
theorem dX2_uniteGroups_0 : decode cX2_uniteGroups 0 = .ok (.iconst 0, 1) := by decide +kernel
theorem dX2_uniteGroups_1 : decode cX2_uniteGroups 1 = .ok (.istore_n 3, 1) := by decide +kernel
theorem dX2_uniteGroups_2 : decode cX2_uniteGroups 2 = .ok (.iload_n 3, 1) := by decide +kernel
theorem dX2_uniteGroups_3 : decode cX2_uniteGroups 3 = .ok (.bipush 64, 2) := by decide +kernel
theorem dX2_uniteGroups_5 : decode cX2_uniteGroups 5 = .ok (.if_icmp .ge 26, 3) := by decide +kernel
theorem dX2_uniteGroups_8 : decode cX2_uniteGroups 8 = .ok (.aload_n 0, 1) := by decide +kernel
theorem dX2_uniteGroups_9 : decode cX2_uniteGroups 9 = .ok (.getfield 15, 3) := by decide +kernel
theorem dX2_uniteGroups_12 : decode cX2_uniteGroups 12 = .ok (.iload_n 3, 1) := by decide +kernel
theorem dX2_uniteGroups_13 : decode cX2_uniteGroups 13 = .ok (.iaload, 1) := by decide +kernel
theorem dX2_uniteGroups_14 : decode cX2_uniteGroups 14 = .ok (.iload_n 2, 1) := by decide +kernel
theorem dX2_uniteGroups_15 : decode cX2_uniteGroups 15 = .ok (.if_icmp .ne 10, 3) := by decide +kernel
theorem dX2_uniteGroups_18 : decode cX2_uniteGroups 18 = .ok (.aload_n 0, 1) := by decide +kernel
theorem dX2_uniteGroups_19 : decode cX2_uniteGroups 19 = .ok (.getfield 15, 3) := by decide +kernel
theorem dX2_uniteGroups_22 : decode cX2_uniteGroups 22 = .ok (.iload_n 3, 1) := by decide +kernel
theorem dX2_uniteGroups_23 : decode cX2_uniteGroups 23 = .ok (.iload_n 1, 1) := by decide +kernel
theorem dX2_uniteGroups_24 : decode cX2_uniteGroups 24 = .ok (.iastore, 1) := by decide +kernel
theorem dX2_uniteGroups_25 : decode cX2_uniteGroups 25 = .ok (.iinc 3 1, 3) := by decide +kernel
theorem dX2_uniteGroups_28 : decode cX2_uniteGroups 28 = .ok (.goto (-26), 3) := by decide +kernel
theorem dX2_uniteGroups_31 : decode cX2_uniteGroups 31 = .ok (.return_, 1) := by decide +kernel
theorem dX2_isTuft_0 : decode cX2_isTuft 0 = .ok (.iload_n 0, 1) := by decide +kernel
theorem dX2_isTuft_1 : decode cX2_isTuft 1 = .ok (.ifCond .lt 13, 3) := by decide +kernel
theorem dX2_isTuft_4 : decode cX2_isTuft 4 = .ok (.iload_n 0, 1) := by decide +kernel
theorem dX2_isTuft_5 : decode cX2_isTuft 5 = .ok (.bipush 64, 2) := by decide +kernel
theorem dX2_isTuft_7 : decode cX2_isTuft 7 = .ok (.if_icmp .ge 7, 3) := by decide +kernel
theorem dX2_isTuft_10 : decode cX2_isTuft 10 = .ok (.iconst 1, 1) := by decide +kernel
theorem dX2_isTuft_11 : decode cX2_isTuft 11 = .ok (.goto 4, 3) := by decide +kernel
theorem dX2_isTuft_14 : decode cX2_isTuft 14 = .ok (.iconst 0, 1) := by decide +kernel
theorem dX2_isTuft_15 : decode cX2_isTuft 15 = .ok (.ireturn, 1) := by decide +kernel
theorem dX3_init_0 : decode cX3_init 0 = .ok (.aload_n 0, 1) := by decide +kernel
theorem dX3_init_1 : decode cX3_init 1 = .ok (.invokespecial 3, 3) := by decide +kernel
theorem dX3_init_4 : decode cX3_init 4 = .ok (.aload_n 0, 1) := by decide +kernel
theorem dX3_init_5 : decode cX3_init 5 = .ok (.sipush 1024, 3) := by decide +kernel
theorem dX3_init_8 : decode cX3_init 8 = .ok (.newarray .int, 2) := by decide +kernel
theorem dX3_init_10 : decode cX3_init 10 = .ok (.putfield 9, 3) := by decide +kernel
theorem dX3_init_13 : decode cX3_init 13 = .ok (.aload_n 0, 1) := by decide +kernel
theorem dX3_init_14 : decode cX3_init 14 = .ok (.sipush 512, 3) := by decide +kernel
theorem dX3_init_17 : decode cX3_init 17 = .ok (.newarray .int, 2) := by decide +kernel
theorem dX3_init_19 : decode cX3_init 19 = .ok (.putfield 15, 3) := by decide +kernel
theorem dX3_init_22 : decode cX3_init 22 = .ok (.return_, 1) := by decide +kernel
theorem dX3_empty_0 : decode cX3_empty 0 = .ok (.aload_n 0, 1) := by decide +kernel
theorem dX3_empty_1 : decode cX3_empty 1 = .ok (.iconst 0, 1) := by decide +kernel
theorem dX3_empty_2 : decode cX3_empty 2 = .ok (.putfield 18, 3) := by decide +kernel
theorem dX3_empty_5 : decode cX3_empty 5 = .ok (.aload_n 0, 1) := by decide +kernel
theorem dX3_empty_6 : decode cX3_empty 6 = .ok (.iconst 0, 1) := by decide +kernel
theorem dX3_empty_7 : decode cX3_empty 7 = .ok (.putfield 22, 3) := by decide +kernel
theorem dX3_empty_10 : decode cX3_empty 10 = .ok (.return_, 1) := by decide +kernel
theorem dX3_copyFrom_0 : decode cX3_copyFrom 0 = .ok (.aload_n 0, 1) := by decide +kernel
theorem dX3_copyFrom_1 : decode cX3_copyFrom 1 = .ok (.aload_n 1, 1) := by decide +kernel
theorem dX3_copyFrom_2 : decode cX3_copyFrom 2 = .ok (.getfield 18, 3) := by decide +kernel
theorem dX3_copyFrom_5 : decode cX3_copyFrom 5 = .ok (.putfield 18, 3) := by decide +kernel
theorem dX3_copyFrom_8 : decode cX3_copyFrom 8 = .ok (.aload_n 0, 1) := by decide +kernel
theorem dX3_copyFrom_9 : decode cX3_copyFrom 9 = .ok (.aload_n 1, 1) := by decide +kernel
theorem dX3_copyFrom_10 : decode cX3_copyFrom 10 = .ok (.getfield 22, 3) := by decide +kernel
theorem dX3_copyFrom_13 : decode cX3_copyFrom 13 = .ok (.putfield 22, 3) := by decide +kernel
theorem dX3_copyFrom_16 : decode cX3_copyFrom 16 = .ok (.aload_n 1, 1) := by decide +kernel
theorem dX3_copyFrom_17 : decode cX3_copyFrom 17 = .ok (.getfield 9, 3) := by decide +kernel
theorem dX3_copyFrom_20 : decode cX3_copyFrom 20 = .ok (.iconst 0, 1) := by decide +kernel
theorem dX3_copyFrom_21 : decode cX3_copyFrom 21 = .ok (.aload_n 0, 1) := by decide +kernel
theorem dX3_copyFrom_22 : decode cX3_copyFrom 22 = .ok (.getfield 9, 3) := by decide +kernel
theorem dX3_copyFrom_25 : decode cX3_copyFrom 25 = .ok (.iconst 0, 1) := by decide +kernel
theorem dX3_copyFrom_26 : decode cX3_copyFrom 26 = .ok (.aload_n 0, 1) := by decide +kernel
theorem dX3_copyFrom_27 : decode cX3_copyFrom 27 = .ok (.getfield 18, 3) := by decide +kernel
theorem dX3_copyFrom_30 : decode cX3_copyFrom 30 = .ok (.invokestatic 25, 3) := by decide +kernel
theorem dX3_copyFrom_33 : decode cX3_copyFrom 33 = .ok (.aload_n 1, 1) := by decide +kernel
theorem dX3_copyFrom_34 : decode cX3_copyFrom 34 = .ok (.getfield 15, 3) := by decide +kernel
theorem dX3_copyFrom_37 : decode cX3_copyFrom 37 = .ok (.iconst 0, 1) := by decide +kernel
theorem dX3_copyFrom_38 : decode cX3_copyFrom 38 = .ok (.aload_n 0, 1) := by decide +kernel
theorem dX3_copyFrom_39 : decode cX3_copyFrom 39 = .ok (.getfield 15, 3) := by decide +kernel
theorem dX3_copyFrom_42 : decode cX3_copyFrom 42 = .ok (.iconst 0, 1) := by decide +kernel
theorem dX3_copyFrom_43 : decode cX3_copyFrom 43 = .ok (.aload_n 0, 1) := by decide +kernel
theorem dX3_copyFrom_44 : decode cX3_copyFrom 44 = .ok (.getfield 22, 3) := by decide +kernel
theorem dX3_copyFrom_47 : decode cX3_copyFrom 47 = .ok (.invokestatic 25, 3) := by decide +kernel
theorem dX3_copyFrom_50 : decode cX3_copyFrom 50 = .ok (.return_, 1) := by decide +kernel
theorem dX3_from_0 : decode cX3_from 0 = .ok (.iload_n 1, 1) := by decide +kernel
theorem dX3_from_1 : decode cX3_from 1 = .ok (.ifCond .le 22, 3) := by decide +kernel
theorem dX3_from_4 : decode cX3_from 4 = .ok (.iload_n 1, 1) := by decide +kernel
theorem dX3_from_5 : decode cX3_from 5 = .ok (.aload_n 0, 1) := by decide +kernel
theorem dX3_from_6 : decode cX3_from 6 = .ok (.getfield 22, 3) := by decide +kernel
theorem dX3_from_9 : decode cX3_from 9 = .ok (.if_icmp .gt 14, 3) := by decide +kernel
theorem dX3_from_12 : decode cX3_from 12 = .ok (.aload_n 0, 1) := by decide +kernel
theorem dX3_from_13 : decode cX3_from 13 = .ok (.getfield 15, 3) := by decide +kernel
theorem dX3_from_16 : decode cX3_from 16 = .ok (.iload_n 1, 1) := by decide +kernel
theorem dX3_from_17 : decode cX3_from 17 = .ok (.iconst 1, 1) := by decide +kernel
theorem dX3_from_18 : decode cX3_from 18 = .ok (.isub, 1) := by decide +kernel
theorem dX3_from_19 : decode cX3_from 19 = .ok (.iaload, 1) := by decide +kernel
theorem dX3_from_20 : decode cX3_from 20 = .ok (.goto 4, 3) := by decide +kernel
theorem dX3_from_23 : decode cX3_from 23 = .ok (.iconst 0, 1) := by decide +kernel
theorem dX3_from_24 : decode cX3_from 24 = .ok (.ireturn, 1) := by decide +kernel
theorem dX3_to_0 : decode cX3_to 0 = .ok (.iload_n 1, 1) := by decide +kernel
theorem dX3_to_1 : decode cX3_to 1 = .ok (.ifCond .lt 20, 3) := by decide +kernel
theorem dX3_to_4 : decode cX3_to 4 = .ok (.iload_n 1, 1) := by decide +kernel
theorem dX3_to_5 : decode cX3_to 5 = .ok (.aload_n 0, 1) := by decide +kernel
theorem dX3_to_6 : decode cX3_to 6 = .ok (.getfield 22, 3) := by decide +kernel
theorem dX3_to_9 : decode cX3_to 9 = .ok (.if_icmp .ge 12, 3) := by decide +kernel
theorem dX3_to_12 : decode cX3_to 12 = .ok (.aload_n 0, 1) := by decide +kernel
theorem dX3_to_13 : decode cX3_to 13 = .ok (.getfield 15, 3) := by decide +kernel
theorem dX3_to_16 : decode cX3_to 16 = .ok (.iload_n 1, 1) := by decide +kernel
theorem dX3_to_17 : decode cX3_to 17 = .ok (.iaload, 1) := by decide +kernel
theorem dX3_to_18 : decode cX3_to 18 = .ok (.goto 4, 3) := by decide +kernel
theorem dX3_to_21 : decode cX3_to 21 = .ok (.iconst 0, 1) := by decide +kernel
theorem dX3_to_22 : decode cX3_to 22 = .ok (.ireturn, 1) := by decide +kernel
theorem lg_wsX3_at_0 : GoodIn wsX3_at ([.fieldLink RX3 9 "MolesLawn$Rows" "cells" "[I", .methodLink RX3 31 yX3_to, .instanceMethod yX3_to, .selects RX3 yX3_to yX3_to, .initialized RX3, .code yX3_to cX3_to 2 (some .int), .fieldLink RX3 22 "MolesLawn$Rows" "size" "I", .fieldLink RX3 15 "MolesLawn$Rows" "ends" "[I", .methodLink RX3 35 yX3_from, .instanceMethod yX3_from, .selects RX3 yX3_from yX3_from, .code yX3_from cX3_from 2 (some .int)] : List Cond) := goodIn_sub (fun _ h => (List.mem_cons_of_mem _ (List.mem_append_left _ h))) (by decide +kernel)
theorem ls_wsX3_at_0 : GoodIn wsX3_at wsX30 := goodIn_sub (fun _ h => (List.mem_cons_of_mem _ (List.mem_append_right _ h))) (by decide +kernel)
set_option maxRecDepth 20000 in
theorem ggX3_at_X3_to : GoodIn wsX3_at wsX3_to := (gi_cons (lg_wsX3_at_0 _ (List.mem_of_getElem? (i := 5) rfl)) (goodIn_app (gi_cons (lg_wsX3_at_0 _ (List.mem_of_getElem? (i := 6) rfl)) (gi_cons (lg_wsX3_at_0 _ (List.mem_of_getElem? (i := 7) rfl)) gi_nil)) ls_wsX3_at_0))
set_option maxRecDepth 20000 in
theorem gX3_at_X3_to : GoodIn wsX3_at (wsV RX3 31 RX3 yX3_to wsX3_to) := goodIn_app (gi_cons (lg_wsX3_at_0 _ (List.mem_of_getElem? (i := 1) rfl)) (gi_cons (lg_wsX3_at_0 _ (List.mem_of_getElem? (i := 2) rfl)) (gi_cons (lg_wsX3_at_0 _ (List.mem_of_getElem? (i := 3) rfl)) (gi_cons (lg_wsX3_at_0 _ (List.mem_of_getElem? (i := 4) rfl)) gi_nil)))) ggX3_at_X3_to
set_option maxRecDepth 20000 in
theorem ggX3_at_X3_from : GoodIn wsX3_at wsX3_from := (gi_cons (lg_wsX3_at_0 _ (List.mem_of_getElem? (i := 11) rfl)) (goodIn_app (gi_cons (lg_wsX3_at_0 _ (List.mem_of_getElem? (i := 6) rfl)) (gi_cons (lg_wsX3_at_0 _ (List.mem_of_getElem? (i := 7) rfl)) gi_nil)) ls_wsX3_at_0))
set_option maxRecDepth 20000 in
theorem gX3_at_X3_from : GoodIn wsX3_at (wsV RX3 35 RX3 yX3_from wsX3_from) := goodIn_app (gi_cons (lg_wsX3_at_0 _ (List.mem_of_getElem? (i := 8) rfl)) (gi_cons (lg_wsX3_at_0 _ (List.mem_of_getElem? (i := 9) rfl)) (gi_cons (lg_wsX3_at_0 _ (List.mem_of_getElem? (i := 10) rfl)) (gi_cons (lg_wsX3_at_0 _ (List.mem_of_getElem? (i := 4) rfl)) gi_nil)))) ggX3_at_X3_from
theorem dX3_at_0 : decode cX3_at 0 = .ok (.iload_n 2, 1) := by decide +kernel
theorem dX3_at_1 : decode cX3_at 1 = .ok (.ifCond .lt 33, 3) := by decide +kernel
theorem dX3_at_4 : decode cX3_at 4 = .ok (.iload_n 2, 1) := by decide +kernel
theorem dX3_at_5 : decode cX3_at 5 = .ok (.aload_n 0, 1) := by decide +kernel
theorem dX3_at_6 : decode cX3_at 6 = .ok (.iload_n 1, 1) := by decide +kernel
theorem dX3_at_7 : decode cX3_at 7 = .ok (.invokevirtual 31, 3) := by decide +kernel
theorem dX3_at_10 : decode cX3_at 10 = .ok (.aload_n 0, 1) := by decide +kernel
theorem dX3_at_11 : decode cX3_at 11 = .ok (.iload_n 1, 1) := by decide +kernel
theorem dX3_at_12 : decode cX3_at 12 = .ok (.invokevirtual 35, 3) := by decide +kernel
theorem dX3_at_15 : decode cX3_at 15 = .ok (.isub, 1) := by decide +kernel
theorem dX3_at_16 : decode cX3_at 16 = .ok (.if_icmp .ge 18, 3) := by decide +kernel
theorem dX3_at_19 : decode cX3_at 19 = .ok (.aload_n 0, 1) := by decide +kernel
theorem dX3_at_20 : decode cX3_at 20 = .ok (.getfield 9, 3) := by decide +kernel
theorem dX3_at_23 : decode cX3_at 23 = .ok (.aload_n 0, 1) := by decide +kernel
theorem dX3_at_24 : decode cX3_at 24 = .ok (.iload_n 1, 1) := by decide +kernel
theorem dX3_at_25 : decode cX3_at 25 = .ok (.invokevirtual 35, 3) := by decide +kernel
theorem dX3_at_28 : decode cX3_at 28 = .ok (.iload_n 2, 1) := by decide +kernel
theorem dX3_at_29 : decode cX3_at 29 = .ok (.iadd, 1) := by decide +kernel
theorem dX3_at_30 : decode cX3_at 30 = .ok (.iaload, 1) := by decide +kernel
theorem dX3_at_31 : decode cX3_at 31 = .ok (.goto 4, 3) := by decide +kernel
theorem dX3_at_34 : decode cX3_at 34 = .ok (.iconst (-1), 1) := by decide +kernel
theorem dX3_at_35 : decode cX3_at 35 = .ok (.ireturn, 1) := by decide +kernel
theorem lg_wsX3_first_0 : GoodIn wsX3_first ([.methodLink RX3 38 yX3_at, .instanceMethod yX3_at, .selects RX3 yX3_at yX3_at, .initialized RX3, .code yX3_at cX3_at 3 (some .int), .fieldLink RX3 9 "MolesLawn$Rows" "cells" "[I", .methodLink RX3 31 yX3_to, .instanceMethod yX3_to, .selects RX3 yX3_to yX3_to, .code yX3_to cX3_to 2 (some .int), .fieldLink RX3 22 "MolesLawn$Rows" "size" "I", .fieldLink RX3 15 "MolesLawn$Rows" "ends" "[I", .methodLink RX3 35 yX3_from, .instanceMethod yX3_from, .selects RX3 yX3_from yX3_from, .code yX3_from cX3_from 2 (some .int)] : List Cond) := goodIn_sub (fun _ h => (List.mem_cons_of_mem _ (List.mem_append_left _ h))) (by decide +kernel)
theorem ls_wsX3_first_0 : GoodIn wsX3_first wsX30 := goodIn_sub (fun _ h => (List.mem_cons_of_mem _ (List.mem_append_right _ h))) (by decide +kernel)
set_option maxRecDepth 20000 in
theorem ggX3_first_X3_at : GoodIn wsX3_first wsX3_at := (gi_cons (lg_wsX3_first_0 _ (List.mem_of_getElem? (i := 4) rfl)) (goodIn_app (gi_cons (lg_wsX3_first_0 _ (List.mem_of_getElem? (i := 5) rfl)) (gi_cons (lg_wsX3_first_0 _ (List.mem_of_getElem? (i := 6) rfl)) (gi_cons (lg_wsX3_first_0 _ (List.mem_of_getElem? (i := 7) rfl)) (gi_cons (lg_wsX3_first_0 _ (List.mem_of_getElem? (i := 8) rfl)) (gi_cons (lg_wsX3_first_0 _ (List.mem_of_getElem? (i := 3) rfl)) (gi_cons (lg_wsX3_first_0 _ (List.mem_of_getElem? (i := 9) rfl)) (gi_cons (lg_wsX3_first_0 _ (List.mem_of_getElem? (i := 10) rfl)) (gi_cons (lg_wsX3_first_0 _ (List.mem_of_getElem? (i := 11) rfl)) (gi_cons (lg_wsX3_first_0 _ (List.mem_of_getElem? (i := 12) rfl)) (gi_cons (lg_wsX3_first_0 _ (List.mem_of_getElem? (i := 13) rfl)) (gi_cons (lg_wsX3_first_0 _ (List.mem_of_getElem? (i := 14) rfl)) (gi_cons (lg_wsX3_first_0 _ (List.mem_of_getElem? (i := 15) rfl)) gi_nil)))))))))))) ls_wsX3_first_0))
set_option maxRecDepth 20000 in
theorem gX3_first_X3_at : GoodIn wsX3_first (wsV RX3 38 RX3 yX3_at wsX3_at) := goodIn_app (gi_cons (lg_wsX3_first_0 _ (List.mem_of_getElem? (i := 0) rfl)) (gi_cons (lg_wsX3_first_0 _ (List.mem_of_getElem? (i := 1) rfl)) (gi_cons (lg_wsX3_first_0 _ (List.mem_of_getElem? (i := 2) rfl)) (gi_cons (lg_wsX3_first_0 _ (List.mem_of_getElem? (i := 3) rfl)) gi_nil)))) ggX3_first_X3_at
theorem dX3_first_0 : decode cX3_first 0 = .ok (.aload_n 0, 1) := by decide +kernel
theorem dX3_first_1 : decode cX3_first 1 = .ok (.iload_n 1, 1) := by decide +kernel
theorem dX3_first_2 : decode cX3_first 2 = .ok (.iconst 0, 1) := by decide +kernel
theorem dX3_first_3 : decode cX3_first 3 = .ok (.invokevirtual 38, 3) := by decide +kernel
theorem dX3_first_6 : decode cX3_first 6 = .ok (.ireturn, 1) := by decide +kernel
theorem lg_wsX3_last_0 : GoodIn wsX3_last ([.methodLink RX3 31 yX3_to, .instanceMethod yX3_to, .selects RX3 yX3_to yX3_to, .initialized RX3, .code yX3_to cX3_to 2 (some .int), .fieldLink RX3 22 "MolesLawn$Rows" "size" "I", .fieldLink RX3 15 "MolesLawn$Rows" "ends" "[I", .methodLink RX3 35 yX3_from, .instanceMethod yX3_from, .selects RX3 yX3_from yX3_from, .code yX3_from cX3_from 2 (some .int), .methodLink RX3 38 yX3_at, .instanceMethod yX3_at, .selects RX3 yX3_at yX3_at, .code yX3_at cX3_at 3 (some .int), .fieldLink RX3 9 "MolesLawn$Rows" "cells" "[I"] : List Cond) := goodIn_sub (fun _ h => (List.mem_cons_of_mem _ (List.mem_append_left _ h))) (by decide +kernel)
theorem ls_wsX3_last_0 : GoodIn wsX3_last wsX30 := goodIn_sub (fun _ h => (List.mem_cons_of_mem _ (List.mem_append_right _ h))) (by decide +kernel)
set_option maxRecDepth 20000 in
theorem ggX3_last_X3_to : GoodIn wsX3_last wsX3_to := (gi_cons (lg_wsX3_last_0 _ (List.mem_of_getElem? (i := 4) rfl)) (goodIn_app (gi_cons (lg_wsX3_last_0 _ (List.mem_of_getElem? (i := 5) rfl)) (gi_cons (lg_wsX3_last_0 _ (List.mem_of_getElem? (i := 6) rfl)) gi_nil)) ls_wsX3_last_0))
set_option maxRecDepth 20000 in
theorem gX3_last_X3_to : GoodIn wsX3_last (wsV RX3 31 RX3 yX3_to wsX3_to) := goodIn_app (gi_cons (lg_wsX3_last_0 _ (List.mem_of_getElem? (i := 0) rfl)) (gi_cons (lg_wsX3_last_0 _ (List.mem_of_getElem? (i := 1) rfl)) (gi_cons (lg_wsX3_last_0 _ (List.mem_of_getElem? (i := 2) rfl)) (gi_cons (lg_wsX3_last_0 _ (List.mem_of_getElem? (i := 3) rfl)) gi_nil)))) ggX3_last_X3_to
set_option maxRecDepth 20000 in
theorem ggX3_last_X3_from : GoodIn wsX3_last wsX3_from := (gi_cons (lg_wsX3_last_0 _ (List.mem_of_getElem? (i := 10) rfl)) (goodIn_app (gi_cons (lg_wsX3_last_0 _ (List.mem_of_getElem? (i := 5) rfl)) (gi_cons (lg_wsX3_last_0 _ (List.mem_of_getElem? (i := 6) rfl)) gi_nil)) ls_wsX3_last_0))
set_option maxRecDepth 20000 in
theorem gX3_last_X3_from : GoodIn wsX3_last (wsV RX3 35 RX3 yX3_from wsX3_from) := goodIn_app (gi_cons (lg_wsX3_last_0 _ (List.mem_of_getElem? (i := 7) rfl)) (gi_cons (lg_wsX3_last_0 _ (List.mem_of_getElem? (i := 8) rfl)) (gi_cons (lg_wsX3_last_0 _ (List.mem_of_getElem? (i := 9) rfl)) (gi_cons (lg_wsX3_last_0 _ (List.mem_of_getElem? (i := 3) rfl)) gi_nil)))) ggX3_last_X3_from
set_option maxRecDepth 20000 in
theorem ggX3_last_X3_at : GoodIn wsX3_last wsX3_at := (gi_cons (lg_wsX3_last_0 _ (List.mem_of_getElem? (i := 14) rfl)) (goodIn_app (gi_cons (lg_wsX3_last_0 _ (List.mem_of_getElem? (i := 15) rfl)) (gi_cons (lg_wsX3_last_0 _ (List.mem_of_getElem? (i := 0) rfl)) (gi_cons (lg_wsX3_last_0 _ (List.mem_of_getElem? (i := 1) rfl)) (gi_cons (lg_wsX3_last_0 _ (List.mem_of_getElem? (i := 2) rfl)) (gi_cons (lg_wsX3_last_0 _ (List.mem_of_getElem? (i := 3) rfl)) (gi_cons (lg_wsX3_last_0 _ (List.mem_of_getElem? (i := 4) rfl)) (gi_cons (lg_wsX3_last_0 _ (List.mem_of_getElem? (i := 5) rfl)) (gi_cons (lg_wsX3_last_0 _ (List.mem_of_getElem? (i := 6) rfl)) (gi_cons (lg_wsX3_last_0 _ (List.mem_of_getElem? (i := 7) rfl)) (gi_cons (lg_wsX3_last_0 _ (List.mem_of_getElem? (i := 8) rfl)) (gi_cons (lg_wsX3_last_0 _ (List.mem_of_getElem? (i := 9) rfl)) (gi_cons (lg_wsX3_last_0 _ (List.mem_of_getElem? (i := 10) rfl)) gi_nil)))))))))))) ls_wsX3_last_0))
set_option maxRecDepth 20000 in
theorem gX3_last_X3_at : GoodIn wsX3_last (wsV RX3 38 RX3 yX3_at wsX3_at) := goodIn_app (gi_cons (lg_wsX3_last_0 _ (List.mem_of_getElem? (i := 11) rfl)) (gi_cons (lg_wsX3_last_0 _ (List.mem_of_getElem? (i := 12) rfl)) (gi_cons (lg_wsX3_last_0 _ (List.mem_of_getElem? (i := 13) rfl)) (gi_cons (lg_wsX3_last_0 _ (List.mem_of_getElem? (i := 3) rfl)) gi_nil)))) ggX3_last_X3_at
theorem dX3_last_0 : decode cX3_last 0 = .ok (.aload_n 0, 1) := by decide +kernel
theorem dX3_last_1 : decode cX3_last 1 = .ok (.iload_n 1, 1) := by decide +kernel
theorem dX3_last_2 : decode cX3_last 2 = .ok (.aload_n 0, 1) := by decide +kernel
theorem dX3_last_3 : decode cX3_last 3 = .ok (.iload_n 1, 1) := by decide +kernel
theorem dX3_last_4 : decode cX3_last 4 = .ok (.invokevirtual 31, 3) := by decide +kernel
theorem dX3_last_7 : decode cX3_last 7 = .ok (.aload_n 0, 1) := by decide +kernel
theorem dX3_last_8 : decode cX3_last 8 = .ok (.iload_n 1, 1) := by decide +kernel
theorem dX3_last_9 : decode cX3_last 9 = .ok (.invokevirtual 35, 3) := by decide +kernel
theorem dX3_last_12 : decode cX3_last 12 = .ok (.isub, 1) := by decide +kernel
theorem dX3_last_13 : decode cX3_last 13 = .ok (.iconst 1, 1) := by decide +kernel
theorem dX3_last_14 : decode cX3_last 14 = .ok (.isub, 1) := by decide +kernel
theorem dX3_last_15 : decode cX3_last 15 = .ok (.invokevirtual 38, 3) := by decide +kernel
theorem dX3_last_18 : decode cX3_last 18 = .ok (.ireturn, 1) := by decide +kernel
theorem lg_wsX3_number_0 : GoodIn wsX3_number ([.methodLink RX3 42 yX3_first, .instanceMethod yX3_first, .selects RX3 yX3_first yX3_first, .initialized RX3, .code yX3_first cX3_first 2 (some .int), .methodLink RX3 38 yX3_at, .instanceMethod yX3_at, .selects RX3 yX3_at yX3_at, .code yX3_at cX3_at 3 (some .int), .fieldLink RX3 9 "MolesLawn$Rows" "cells" "[I", .methodLink RX3 31 yX3_to, .instanceMethod yX3_to, .selects RX3 yX3_to yX3_to, .code yX3_to cX3_to 2 (some .int), .fieldLink RX3 22 "MolesLawn$Rows" "size" "I", .fieldLink RX3 15 "MolesLawn$Rows" "ends" "[I", .methodLink RX3 35 yX3_from, .instanceMethod yX3_from, .selects RX3 yX3_from yX3_from, .code yX3_from cX3_from 2 (some .int), .methodLink RX3 45 yX3_last, .instanceMethod yX3_last, .selects RX3 yX3_last yX3_last, .code yX3_last cX3_last 2 (some .int)] : List Cond) := goodIn_sub (fun _ h => (List.mem_cons_of_mem _ (List.mem_append_left _ h))) (by decide +kernel)
theorem ls_wsX3_number_0 : GoodIn wsX3_number wsX30 := goodIn_sub (fun _ h => (List.mem_cons_of_mem _ (List.mem_append_right _ h))) (by decide +kernel)
set_option maxRecDepth 20000 in
theorem ggX3_number_X3_first : GoodIn wsX3_number wsX3_first := (gi_cons (lg_wsX3_number_0 _ (List.mem_of_getElem? (i := 4) rfl)) (goodIn_app (gi_cons (lg_wsX3_number_0 _ (List.mem_of_getElem? (i := 5) rfl)) (gi_cons (lg_wsX3_number_0 _ (List.mem_of_getElem? (i := 6) rfl)) (gi_cons (lg_wsX3_number_0 _ (List.mem_of_getElem? (i := 7) rfl)) (gi_cons (lg_wsX3_number_0 _ (List.mem_of_getElem? (i := 3) rfl)) (gi_cons (lg_wsX3_number_0 _ (List.mem_of_getElem? (i := 8) rfl)) (gi_cons (lg_wsX3_number_0 _ (List.mem_of_getElem? (i := 9) rfl)) (gi_cons (lg_wsX3_number_0 _ (List.mem_of_getElem? (i := 10) rfl)) (gi_cons (lg_wsX3_number_0 _ (List.mem_of_getElem? (i := 11) rfl)) (gi_cons (lg_wsX3_number_0 _ (List.mem_of_getElem? (i := 12) rfl)) (gi_cons (lg_wsX3_number_0 _ (List.mem_of_getElem? (i := 13) rfl)) (gi_cons (lg_wsX3_number_0 _ (List.mem_of_getElem? (i := 14) rfl)) (gi_cons (lg_wsX3_number_0 _ (List.mem_of_getElem? (i := 15) rfl)) (gi_cons (lg_wsX3_number_0 _ (List.mem_of_getElem? (i := 16) rfl)) (gi_cons (lg_wsX3_number_0 _ (List.mem_of_getElem? (i := 17) rfl)) (gi_cons (lg_wsX3_number_0 _ (List.mem_of_getElem? (i := 18) rfl)) (gi_cons (lg_wsX3_number_0 _ (List.mem_of_getElem? (i := 19) rfl)) gi_nil)))))))))))))))) ls_wsX3_number_0))
set_option maxRecDepth 20000 in
theorem gX3_number_X3_first : GoodIn wsX3_number (wsV RX3 42 RX3 yX3_first wsX3_first) := goodIn_app (gi_cons (lg_wsX3_number_0 _ (List.mem_of_getElem? (i := 0) rfl)) (gi_cons (lg_wsX3_number_0 _ (List.mem_of_getElem? (i := 1) rfl)) (gi_cons (lg_wsX3_number_0 _ (List.mem_of_getElem? (i := 2) rfl)) (gi_cons (lg_wsX3_number_0 _ (List.mem_of_getElem? (i := 3) rfl)) gi_nil)))) ggX3_number_X3_first
set_option maxRecDepth 20000 in
theorem ggX3_number_X3_last : GoodIn wsX3_number wsX3_last := (gi_cons (lg_wsX3_number_0 _ (List.mem_of_getElem? (i := 23) rfl)) (goodIn_app (gi_cons (lg_wsX3_number_0 _ (List.mem_of_getElem? (i := 10) rfl)) (gi_cons (lg_wsX3_number_0 _ (List.mem_of_getElem? (i := 11) rfl)) (gi_cons (lg_wsX3_number_0 _ (List.mem_of_getElem? (i := 12) rfl)) (gi_cons (lg_wsX3_number_0 _ (List.mem_of_getElem? (i := 3) rfl)) (gi_cons (lg_wsX3_number_0 _ (List.mem_of_getElem? (i := 13) rfl)) (gi_cons (lg_wsX3_number_0 _ (List.mem_of_getElem? (i := 14) rfl)) (gi_cons (lg_wsX3_number_0 _ (List.mem_of_getElem? (i := 15) rfl)) (gi_cons (lg_wsX3_number_0 _ (List.mem_of_getElem? (i := 16) rfl)) (gi_cons (lg_wsX3_number_0 _ (List.mem_of_getElem? (i := 17) rfl)) (gi_cons (lg_wsX3_number_0 _ (List.mem_of_getElem? (i := 18) rfl)) (gi_cons (lg_wsX3_number_0 _ (List.mem_of_getElem? (i := 19) rfl)) (gi_cons (lg_wsX3_number_0 _ (List.mem_of_getElem? (i := 5) rfl)) (gi_cons (lg_wsX3_number_0 _ (List.mem_of_getElem? (i := 6) rfl)) (gi_cons (lg_wsX3_number_0 _ (List.mem_of_getElem? (i := 7) rfl)) (gi_cons (lg_wsX3_number_0 _ (List.mem_of_getElem? (i := 8) rfl)) (gi_cons (lg_wsX3_number_0 _ (List.mem_of_getElem? (i := 9) rfl)) gi_nil)))))))))))))))) ls_wsX3_number_0))
set_option maxRecDepth 20000 in
theorem gX3_number_X3_last : GoodIn wsX3_number (wsV RX3 45 RX3 yX3_last wsX3_last) := goodIn_app (gi_cons (lg_wsX3_number_0 _ (List.mem_of_getElem? (i := 20) rfl)) (gi_cons (lg_wsX3_number_0 _ (List.mem_of_getElem? (i := 21) rfl)) (gi_cons (lg_wsX3_number_0 _ (List.mem_of_getElem? (i := 22) rfl)) (gi_cons (lg_wsX3_number_0 _ (List.mem_of_getElem? (i := 3) rfl)) gi_nil)))) ggX3_number_X3_last
set_option maxRecDepth 20000 in
theorem ggX3_number_X3_to : GoodIn wsX3_number wsX3_to := (gi_cons (lg_wsX3_number_0 _ (List.mem_of_getElem? (i := 13) rfl)) (goodIn_app (gi_cons (lg_wsX3_number_0 _ (List.mem_of_getElem? (i := 14) rfl)) (gi_cons (lg_wsX3_number_0 _ (List.mem_of_getElem? (i := 15) rfl)) gi_nil)) ls_wsX3_number_0))
set_option maxRecDepth 20000 in
theorem gX3_number_X3_to : GoodIn wsX3_number (wsV RX3 31 RX3 yX3_to wsX3_to) := goodIn_app (gi_cons (lg_wsX3_number_0 _ (List.mem_of_getElem? (i := 10) rfl)) (gi_cons (lg_wsX3_number_0 _ (List.mem_of_getElem? (i := 11) rfl)) (gi_cons (lg_wsX3_number_0 _ (List.mem_of_getElem? (i := 12) rfl)) (gi_cons (lg_wsX3_number_0 _ (List.mem_of_getElem? (i := 3) rfl)) gi_nil)))) ggX3_number_X3_to
set_option maxRecDepth 20000 in
theorem ggX3_number_X3_from : GoodIn wsX3_number wsX3_from := (gi_cons (lg_wsX3_number_0 _ (List.mem_of_getElem? (i := 19) rfl)) (goodIn_app (gi_cons (lg_wsX3_number_0 _ (List.mem_of_getElem? (i := 14) rfl)) (gi_cons (lg_wsX3_number_0 _ (List.mem_of_getElem? (i := 15) rfl)) gi_nil)) ls_wsX3_number_0))
set_option maxRecDepth 20000 in
theorem gX3_number_X3_from : GoodIn wsX3_number (wsV RX3 35 RX3 yX3_from wsX3_from) := goodIn_app (gi_cons (lg_wsX3_number_0 _ (List.mem_of_getElem? (i := 16) rfl)) (gi_cons (lg_wsX3_number_0 _ (List.mem_of_getElem? (i := 17) rfl)) (gi_cons (lg_wsX3_number_0 _ (List.mem_of_getElem? (i := 18) rfl)) (gi_cons (lg_wsX3_number_0 _ (List.mem_of_getElem? (i := 3) rfl)) gi_nil)))) ggX3_number_X3_from
theorem dX3_number_0 : decode cX3_number 0 = .ok (.iload_n 2, 1) := by decide +kernel
theorem dX3_number_1 : decode cX3_number 1 = .ok (.lookupswitch 39 #[(0, 27), (1, 33)], 27) := by decide +kernel
theorem dX3_number_28 : decode cX3_number 28 = .ok (.aload_n 0, 1) := by decide +kernel
theorem dX3_number_29 : decode cX3_number 29 = .ok (.iload_n 1, 1) := by decide +kernel
theorem dX3_number_30 : decode cX3_number 30 = .ok (.invokevirtual 42, 3) := by decide +kernel
theorem dX3_number_33 : decode cX3_number 33 = .ok (.ireturn, 1) := by decide +kernel
theorem dX3_number_34 : decode cX3_number 34 = .ok (.aload_n 0, 1) := by decide +kernel
theorem dX3_number_35 : decode cX3_number 35 = .ok (.iload_n 1, 1) := by decide +kernel
theorem dX3_number_36 : decode cX3_number 36 = .ok (.invokevirtual 45, 3) := by decide +kernel
theorem dX3_number_39 : decode cX3_number 39 = .ok (.ireturn, 1) := by decide +kernel
theorem dX3_number_40 : decode cX3_number 40 = .ok (.aload_n 0, 1) := by decide +kernel
theorem dX3_number_41 : decode cX3_number 41 = .ok (.iload_n 1, 1) := by decide +kernel
theorem dX3_number_42 : decode cX3_number 42 = .ok (.invokevirtual 31, 3) := by decide +kernel
theorem dX3_number_45 : decode cX3_number 45 = .ok (.aload_n 0, 1) := by decide +kernel
theorem dX3_number_46 : decode cX3_number 46 = .ok (.iload_n 1, 1) := by decide +kernel
theorem dX3_number_47 : decode cX3_number 47 = .ok (.invokevirtual 35, 3) := by decide +kernel
theorem dX3_number_50 : decode cX3_number 50 = .ok (.isub, 1) := by decide +kernel
theorem dX3_number_51 : decode cX3_number 51 = .ok (.ireturn, 1) := by decide +kernel
theorem lg_wsX3_firstIndex_0 : GoodIn wsX3_firstIndex ([.fieldLink RX3 9 "MolesLawn$Rows" "cells" "[I", .methodLink RX3 31 yX3_to, .instanceMethod yX3_to, .selects RX3 yX3_to yX3_to, .initialized RX3, .code yX3_to cX3_to 2 (some .int), .fieldLink RX3 22 "MolesLawn$Rows" "size" "I", .fieldLink RX3 15 "MolesLawn$Rows" "ends" "[I", .methodLink RX3 35 yX3_from, .instanceMethod yX3_from, .selects RX3 yX3_from yX3_from, .code yX3_from cX3_from 2 (some .int)] : List Cond) := goodIn_sub (fun _ h => (List.mem_cons_of_mem _ (List.mem_append_left _ h))) (by decide +kernel)
theorem ls_wsX3_firstIndex_0 : GoodIn wsX3_firstIndex wsX30 := goodIn_sub (fun _ h => (List.mem_cons_of_mem _ (List.mem_append_right _ h))) (by decide +kernel)
set_option maxRecDepth 20000 in
theorem ggX3_firstIndex_X3_to : GoodIn wsX3_firstIndex wsX3_to := (gi_cons (lg_wsX3_firstIndex_0 _ (List.mem_of_getElem? (i := 5) rfl)) (goodIn_app (gi_cons (lg_wsX3_firstIndex_0 _ (List.mem_of_getElem? (i := 6) rfl)) (gi_cons (lg_wsX3_firstIndex_0 _ (List.mem_of_getElem? (i := 7) rfl)) gi_nil)) ls_wsX3_firstIndex_0))
set_option maxRecDepth 20000 in
theorem gX3_firstIndex_X3_to : GoodIn wsX3_firstIndex (wsV RX3 31 RX3 yX3_to wsX3_to) := goodIn_app (gi_cons (lg_wsX3_firstIndex_0 _ (List.mem_of_getElem? (i := 1) rfl)) (gi_cons (lg_wsX3_firstIndex_0 _ (List.mem_of_getElem? (i := 2) rfl)) (gi_cons (lg_wsX3_firstIndex_0 _ (List.mem_of_getElem? (i := 3) rfl)) (gi_cons (lg_wsX3_firstIndex_0 _ (List.mem_of_getElem? (i := 4) rfl)) gi_nil)))) ggX3_firstIndex_X3_to
set_option maxRecDepth 20000 in
theorem ggX3_firstIndex_X3_from : GoodIn wsX3_firstIndex wsX3_from := (gi_cons (lg_wsX3_firstIndex_0 _ (List.mem_of_getElem? (i := 11) rfl)) (goodIn_app (gi_cons (lg_wsX3_firstIndex_0 _ (List.mem_of_getElem? (i := 6) rfl)) (gi_cons (lg_wsX3_firstIndex_0 _ (List.mem_of_getElem? (i := 7) rfl)) gi_nil)) ls_wsX3_firstIndex_0))
set_option maxRecDepth 20000 in
theorem gX3_firstIndex_X3_from : GoodIn wsX3_firstIndex (wsV RX3 35 RX3 yX3_from wsX3_from) := goodIn_app (gi_cons (lg_wsX3_firstIndex_0 _ (List.mem_of_getElem? (i := 8) rfl)) (gi_cons (lg_wsX3_firstIndex_0 _ (List.mem_of_getElem? (i := 9) rfl)) (gi_cons (lg_wsX3_firstIndex_0 _ (List.mem_of_getElem? (i := 10) rfl)) (gi_cons (lg_wsX3_firstIndex_0 _ (List.mem_of_getElem? (i := 4) rfl)) gi_nil)))) ggX3_firstIndex_X3_from
theorem dX3_firstIndex_0 : decode cX3_firstIndex 0 = .ok (.aload_n 0, 1) := by decide +kernel
theorem dX3_firstIndex_1 : decode cX3_firstIndex 1 = .ok (.iload_n 1, 1) := by decide +kernel
theorem dX3_firstIndex_2 : decode cX3_firstIndex 2 = .ok (.invokevirtual 31, 3) := by decide +kernel
theorem dX3_firstIndex_5 : decode cX3_firstIndex 5 = .ok (.istore_n 3, 1) := by decide +kernel
theorem dX3_firstIndex_6 : decode cX3_firstIndex 6 = .ok (.aload_n 0, 1) := by decide +kernel
theorem dX3_firstIndex_7 : decode cX3_firstIndex 7 = .ok (.iload_n 1, 1) := by decide +kernel
theorem dX3_firstIndex_8 : decode cX3_firstIndex 8 = .ok (.invokevirtual 35, 3) := by decide +kernel
theorem dX3_firstIndex_11 : decode cX3_firstIndex 11 = .ok (.istore 4, 2) := by decide +kernel
theorem dX3_firstIndex_13 : decode cX3_firstIndex 13 = .ok (.iload 4, 2) := by decide +kernel
theorem dX3_firstIndex_15 : decode cX3_firstIndex 15 = .ok (.iload_n 3, 1) := by decide +kernel
theorem dX3_firstIndex_16 : decode cX3_firstIndex 16 = .ok (.if_icmp .ge 23, 3) := by decide +kernel
theorem dX3_firstIndex_19 : decode cX3_firstIndex 19 = .ok (.aload_n 0, 1) := by decide +kernel
theorem dX3_firstIndex_20 : decode cX3_firstIndex 20 = .ok (.getfield 9, 3) := by decide +kernel
theorem dX3_firstIndex_23 : decode cX3_firstIndex 23 = .ok (.iload 4, 2) := by decide +kernel
theorem dX3_firstIndex_25 : decode cX3_firstIndex 25 = .ok (.iaload, 1) := by decide +kernel
theorem dX3_firstIndex_26 : decode cX3_firstIndex 26 = .ok (.iload_n 2, 1) := by decide +kernel
theorem dX3_firstIndex_27 : decode cX3_firstIndex 27 = .ok (.if_icmp .ne 6, 3) := by decide +kernel
theorem dX3_firstIndex_30 : decode cX3_firstIndex 30 = .ok (.iload 4, 2) := by decide +kernel
theorem dX3_firstIndex_32 : decode cX3_firstIndex 32 = .ok (.ireturn, 1) := by decide +kernel
theorem dX3_firstIndex_33 : decode cX3_firstIndex 33 = .ok (.iinc 4 1, 3) := by decide +kernel
theorem dX3_firstIndex_36 : decode cX3_firstIndex 36 = .ok (.goto (-23), 3) := by decide +kernel
theorem dX3_firstIndex_39 : decode cX3_firstIndex 39 = .ok (.iconst (-1), 1) := by decide +kernel
theorem dX3_firstIndex_40 : decode cX3_firstIndex 40 = .ok (.ireturn, 1) := by decide +kernel
theorem lg_wsX3_lastIndex_0 : GoodIn wsX3_lastIndex ([.fieldLink RX3 9 "MolesLawn$Rows" "cells" "[I", .methodLink RX3 35 yX3_from, .instanceMethod yX3_from, .selects RX3 yX3_from yX3_from, .initialized RX3, .code yX3_from cX3_from 2 (some .int), .fieldLink RX3 22 "MolesLawn$Rows" "size" "I", .fieldLink RX3 15 "MolesLawn$Rows" "ends" "[I", .methodLink RX3 31 yX3_to, .instanceMethod yX3_to, .selects RX3 yX3_to yX3_to, .code yX3_to cX3_to 2 (some .int)] : List Cond) := goodIn_sub (fun _ h => (List.mem_cons_of_mem _ (List.mem_append_left _ h))) (by decide +kernel)
theorem ls_wsX3_lastIndex_0 : GoodIn wsX3_lastIndex wsX30 := goodIn_sub (fun _ h => (List.mem_cons_of_mem _ (List.mem_append_right _ h))) (by decide +kernel)
set_option maxRecDepth 20000 in
theorem ggX3_lastIndex_X3_from : GoodIn wsX3_lastIndex wsX3_from := (gi_cons (lg_wsX3_lastIndex_0 _ (List.mem_of_getElem? (i := 5) rfl)) (goodIn_app (gi_cons (lg_wsX3_lastIndex_0 _ (List.mem_of_getElem? (i := 6) rfl)) (gi_cons (lg_wsX3_lastIndex_0 _ (List.mem_of_getElem? (i := 7) rfl)) gi_nil)) ls_wsX3_lastIndex_0))
set_option maxRecDepth 20000 in
theorem gX3_lastIndex_X3_from : GoodIn wsX3_lastIndex (wsV RX3 35 RX3 yX3_from wsX3_from) := goodIn_app (gi_cons (lg_wsX3_lastIndex_0 _ (List.mem_of_getElem? (i := 1) rfl)) (gi_cons (lg_wsX3_lastIndex_0 _ (List.mem_of_getElem? (i := 2) rfl)) (gi_cons (lg_wsX3_lastIndex_0 _ (List.mem_of_getElem? (i := 3) rfl)) (gi_cons (lg_wsX3_lastIndex_0 _ (List.mem_of_getElem? (i := 4) rfl)) gi_nil)))) ggX3_lastIndex_X3_from
set_option maxRecDepth 20000 in
theorem ggX3_lastIndex_X3_to : GoodIn wsX3_lastIndex wsX3_to := (gi_cons (lg_wsX3_lastIndex_0 _ (List.mem_of_getElem? (i := 11) rfl)) (goodIn_app (gi_cons (lg_wsX3_lastIndex_0 _ (List.mem_of_getElem? (i := 6) rfl)) (gi_cons (lg_wsX3_lastIndex_0 _ (List.mem_of_getElem? (i := 7) rfl)) gi_nil)) ls_wsX3_lastIndex_0))
set_option maxRecDepth 20000 in
theorem gX3_lastIndex_X3_to : GoodIn wsX3_lastIndex (wsV RX3 31 RX3 yX3_to wsX3_to) := goodIn_app (gi_cons (lg_wsX3_lastIndex_0 _ (List.mem_of_getElem? (i := 8) rfl)) (gi_cons (lg_wsX3_lastIndex_0 _ (List.mem_of_getElem? (i := 9) rfl)) (gi_cons (lg_wsX3_lastIndex_0 _ (List.mem_of_getElem? (i := 10) rfl)) (gi_cons (lg_wsX3_lastIndex_0 _ (List.mem_of_getElem? (i := 4) rfl)) gi_nil)))) ggX3_lastIndex_X3_to
theorem dX3_lastIndex_0 : decode cX3_lastIndex 0 = .ok (.aload_n 0, 1) := by decide +kernel
theorem dX3_lastIndex_1 : decode cX3_lastIndex 1 = .ok (.iload_n 1, 1) := by decide +kernel
theorem dX3_lastIndex_2 : decode cX3_lastIndex 2 = .ok (.invokevirtual 35, 3) := by decide +kernel
theorem dX3_lastIndex_5 : decode cX3_lastIndex 5 = .ok (.istore_n 3, 1) := by decide +kernel
theorem dX3_lastIndex_6 : decode cX3_lastIndex 6 = .ok (.aload_n 0, 1) := by decide +kernel
theorem dX3_lastIndex_7 : decode cX3_lastIndex 7 = .ok (.iload_n 1, 1) := by decide +kernel
theorem dX3_lastIndex_8 : decode cX3_lastIndex 8 = .ok (.invokevirtual 31, 3) := by decide +kernel
theorem dX3_lastIndex_11 : decode cX3_lastIndex 11 = .ok (.iconst 1, 1) := by decide +kernel
theorem dX3_lastIndex_12 : decode cX3_lastIndex 12 = .ok (.isub, 1) := by decide +kernel
theorem dX3_lastIndex_13 : decode cX3_lastIndex 13 = .ok (.istore 4, 2) := by decide +kernel
theorem dX3_lastIndex_15 : decode cX3_lastIndex 15 = .ok (.iload 4, 2) := by decide +kernel
theorem dX3_lastIndex_17 : decode cX3_lastIndex 17 = .ok (.iload_n 3, 1) := by decide +kernel
theorem dX3_lastIndex_18 : decode cX3_lastIndex 18 = .ok (.if_icmp .lt 23, 3) := by decide +kernel
theorem dX3_lastIndex_21 : decode cX3_lastIndex 21 = .ok (.aload_n 0, 1) := by decide +kernel
theorem dX3_lastIndex_22 : decode cX3_lastIndex 22 = .ok (.getfield 9, 3) := by decide +kernel
theorem dX3_lastIndex_25 : decode cX3_lastIndex 25 = .ok (.iload 4, 2) := by decide +kernel
theorem dX3_lastIndex_27 : decode cX3_lastIndex 27 = .ok (.iaload, 1) := by decide +kernel
theorem dX3_lastIndex_28 : decode cX3_lastIndex 28 = .ok (.iload_n 2, 1) := by decide +kernel
theorem dX3_lastIndex_29 : decode cX3_lastIndex 29 = .ok (.if_icmp .ne 6, 3) := by decide +kernel
theorem dX3_lastIndex_32 : decode cX3_lastIndex 32 = .ok (.iload 4, 2) := by decide +kernel
theorem dX3_lastIndex_34 : decode cX3_lastIndex 34 = .ok (.ireturn, 1) := by decide +kernel
theorem dX3_lastIndex_35 : decode cX3_lastIndex 35 = .ok (.iinc 4 (-1), 3) := by decide +kernel
theorem dX3_lastIndex_38 : decode cX3_lastIndex 38 = .ok (.goto (-23), 3) := by decide +kernel
theorem dX3_lastIndex_41 : decode cX3_lastIndex 41 = .ok (.iconst (-1), 1) := by decide +kernel
theorem dX3_lastIndex_42 : decode cX3_lastIndex 42 = .ok (.ireturn, 1) := by decide +kernel
theorem lg_wsX3_endsAt_0 : GoodIn wsX3_endsAt ([.methodLink RX3 42 yX3_first, .instanceMethod yX3_first, .selects RX3 yX3_first yX3_first, .initialized RX3, .code yX3_first cX3_first 2 (some .int), .methodLink RX3 38 yX3_at, .instanceMethod yX3_at, .selects RX3 yX3_at yX3_at, .code yX3_at cX3_at 3 (some .int), .fieldLink RX3 9 "MolesLawn$Rows" "cells" "[I", .methodLink RX3 31 yX3_to, .instanceMethod yX3_to, .selects RX3 yX3_to yX3_to, .code yX3_to cX3_to 2 (some .int), .fieldLink RX3 22 "MolesLawn$Rows" "size" "I", .fieldLink RX3 15 "MolesLawn$Rows" "ends" "[I", .methodLink RX3 35 yX3_from, .instanceMethod yX3_from, .selects RX3 yX3_from yX3_from, .code yX3_from cX3_from 2 (some .int), .methodLink RX3 45 yX3_last, .instanceMethod yX3_last, .selects RX3 yX3_last yX3_last, .code yX3_last cX3_last 2 (some .int)] : List Cond) := goodIn_sub (fun _ h => (List.mem_cons_of_mem _ (List.mem_append_left _ h))) (by decide +kernel)
theorem ls_wsX3_endsAt_0 : GoodIn wsX3_endsAt wsX30 := goodIn_sub (fun _ h => (List.mem_cons_of_mem _ (List.mem_append_right _ h))) (by decide +kernel)
set_option maxRecDepth 20000 in
theorem ggX3_endsAt_X3_first : GoodIn wsX3_endsAt wsX3_first := (gi_cons (lg_wsX3_endsAt_0 _ (List.mem_of_getElem? (i := 4) rfl)) (goodIn_app (gi_cons (lg_wsX3_endsAt_0 _ (List.mem_of_getElem? (i := 5) rfl)) (gi_cons (lg_wsX3_endsAt_0 _ (List.mem_of_getElem? (i := 6) rfl)) (gi_cons (lg_wsX3_endsAt_0 _ (List.mem_of_getElem? (i := 7) rfl)) (gi_cons (lg_wsX3_endsAt_0 _ (List.mem_of_getElem? (i := 3) rfl)) (gi_cons (lg_wsX3_endsAt_0 _ (List.mem_of_getElem? (i := 8) rfl)) (gi_cons (lg_wsX3_endsAt_0 _ (List.mem_of_getElem? (i := 9) rfl)) (gi_cons (lg_wsX3_endsAt_0 _ (List.mem_of_getElem? (i := 10) rfl)) (gi_cons (lg_wsX3_endsAt_0 _ (List.mem_of_getElem? (i := 11) rfl)) (gi_cons (lg_wsX3_endsAt_0 _ (List.mem_of_getElem? (i := 12) rfl)) (gi_cons (lg_wsX3_endsAt_0 _ (List.mem_of_getElem? (i := 13) rfl)) (gi_cons (lg_wsX3_endsAt_0 _ (List.mem_of_getElem? (i := 14) rfl)) (gi_cons (lg_wsX3_endsAt_0 _ (List.mem_of_getElem? (i := 15) rfl)) (gi_cons (lg_wsX3_endsAt_0 _ (List.mem_of_getElem? (i := 16) rfl)) (gi_cons (lg_wsX3_endsAt_0 _ (List.mem_of_getElem? (i := 17) rfl)) (gi_cons (lg_wsX3_endsAt_0 _ (List.mem_of_getElem? (i := 18) rfl)) (gi_cons (lg_wsX3_endsAt_0 _ (List.mem_of_getElem? (i := 19) rfl)) gi_nil)))))))))))))))) ls_wsX3_endsAt_0))
set_option maxRecDepth 20000 in
theorem gX3_endsAt_X3_first : GoodIn wsX3_endsAt (wsV RX3 42 RX3 yX3_first wsX3_first) := goodIn_app (gi_cons (lg_wsX3_endsAt_0 _ (List.mem_of_getElem? (i := 0) rfl)) (gi_cons (lg_wsX3_endsAt_0 _ (List.mem_of_getElem? (i := 1) rfl)) (gi_cons (lg_wsX3_endsAt_0 _ (List.mem_of_getElem? (i := 2) rfl)) (gi_cons (lg_wsX3_endsAt_0 _ (List.mem_of_getElem? (i := 3) rfl)) gi_nil)))) ggX3_endsAt_X3_first
set_option maxRecDepth 20000 in
theorem ggX3_endsAt_X3_last : GoodIn wsX3_endsAt wsX3_last := (gi_cons (lg_wsX3_endsAt_0 _ (List.mem_of_getElem? (i := 23) rfl)) (goodIn_app (gi_cons (lg_wsX3_endsAt_0 _ (List.mem_of_getElem? (i := 10) rfl)) (gi_cons (lg_wsX3_endsAt_0 _ (List.mem_of_getElem? (i := 11) rfl)) (gi_cons (lg_wsX3_endsAt_0 _ (List.mem_of_getElem? (i := 12) rfl)) (gi_cons (lg_wsX3_endsAt_0 _ (List.mem_of_getElem? (i := 3) rfl)) (gi_cons (lg_wsX3_endsAt_0 _ (List.mem_of_getElem? (i := 13) rfl)) (gi_cons (lg_wsX3_endsAt_0 _ (List.mem_of_getElem? (i := 14) rfl)) (gi_cons (lg_wsX3_endsAt_0 _ (List.mem_of_getElem? (i := 15) rfl)) (gi_cons (lg_wsX3_endsAt_0 _ (List.mem_of_getElem? (i := 16) rfl)) (gi_cons (lg_wsX3_endsAt_0 _ (List.mem_of_getElem? (i := 17) rfl)) (gi_cons (lg_wsX3_endsAt_0 _ (List.mem_of_getElem? (i := 18) rfl)) (gi_cons (lg_wsX3_endsAt_0 _ (List.mem_of_getElem? (i := 19) rfl)) (gi_cons (lg_wsX3_endsAt_0 _ (List.mem_of_getElem? (i := 5) rfl)) (gi_cons (lg_wsX3_endsAt_0 _ (List.mem_of_getElem? (i := 6) rfl)) (gi_cons (lg_wsX3_endsAt_0 _ (List.mem_of_getElem? (i := 7) rfl)) (gi_cons (lg_wsX3_endsAt_0 _ (List.mem_of_getElem? (i := 8) rfl)) (gi_cons (lg_wsX3_endsAt_0 _ (List.mem_of_getElem? (i := 9) rfl)) gi_nil)))))))))))))))) ls_wsX3_endsAt_0))
set_option maxRecDepth 20000 in
theorem gX3_endsAt_X3_last : GoodIn wsX3_endsAt (wsV RX3 45 RX3 yX3_last wsX3_last) := goodIn_app (gi_cons (lg_wsX3_endsAt_0 _ (List.mem_of_getElem? (i := 20) rfl)) (gi_cons (lg_wsX3_endsAt_0 _ (List.mem_of_getElem? (i := 21) rfl)) (gi_cons (lg_wsX3_endsAt_0 _ (List.mem_of_getElem? (i := 22) rfl)) (gi_cons (lg_wsX3_endsAt_0 _ (List.mem_of_getElem? (i := 3) rfl)) gi_nil)))) ggX3_endsAt_X3_last
theorem dX3_endsAt_0 : decode cX3_endsAt 0 = .ok (.aload_n 0, 1) := by decide +kernel
theorem dX3_endsAt_1 : decode cX3_endsAt 1 = .ok (.iload_n 1, 1) := by decide +kernel
theorem dX3_endsAt_2 : decode cX3_endsAt 2 = .ok (.invokevirtual 42, 3) := by decide +kernel
theorem dX3_endsAt_5 : decode cX3_endsAt 5 = .ok (.iload_n 2, 1) := by decide +kernel
theorem dX3_endsAt_6 : decode cX3_endsAt 6 = .ok (.if_icmp .eq 12, 3) := by decide +kernel
theorem dX3_endsAt_9 : decode cX3_endsAt 9 = .ok (.aload_n 0, 1) := by decide +kernel
theorem dX3_endsAt_10 : decode cX3_endsAt 10 = .ok (.iload_n 1, 1) := by decide +kernel
theorem dX3_endsAt_11 : decode cX3_endsAt 11 = .ok (.invokevirtual 45, 3) := by decide +kernel
theorem dX3_endsAt_14 : decode cX3_endsAt 14 = .ok (.iload_n 2, 1) := by decide +kernel
theorem dX3_endsAt_15 : decode cX3_endsAt 15 = .ok (.if_icmp .ne 7, 3) := by decide +kernel
theorem dX3_endsAt_18 : decode cX3_endsAt 18 = .ok (.iconst 1, 1) := by decide +kernel
theorem dX3_endsAt_19 : decode cX3_endsAt 19 = .ok (.goto 4, 3) := by decide +kernel
theorem dX3_endsAt_22 : decode cX3_endsAt 22 = .ok (.iconst 0, 1) := by decide +kernel
theorem dX3_endsAt_23 : decode cX3_endsAt 23 = .ok (.ireturn, 1) := by decide +kernel
theorem lg_wsX3_otherEnd_0 : GoodIn wsX3_otherEnd ([.methodLink RX3 42 yX3_first, .instanceMethod yX3_first, .selects RX3 yX3_first yX3_first, .initialized RX3, .code yX3_first cX3_first 2 (some .int), .methodLink RX3 38 yX3_at, .instanceMethod yX3_at, .selects RX3 yX3_at yX3_at, .code yX3_at cX3_at 3 (some .int), .fieldLink RX3 9 "MolesLawn$Rows" "cells" "[I", .methodLink RX3 31 yX3_to, .instanceMethod yX3_to, .selects RX3 yX3_to yX3_to, .code yX3_to cX3_to 2 (some .int), .fieldLink RX3 22 "MolesLawn$Rows" "size" "I", .fieldLink RX3 15 "MolesLawn$Rows" "ends" "[I", .methodLink RX3 35 yX3_from, .instanceMethod yX3_from, .selects RX3 yX3_from yX3_from, .code yX3_from cX3_from 2 (some .int), .methodLink RX3 45 yX3_last, .instanceMethod yX3_last, .selects RX3 yX3_last yX3_last, .code yX3_last cX3_last 2 (some .int)] : List Cond) := goodIn_sub (fun _ h => (List.mem_cons_of_mem _ (List.mem_append_left _ h))) (by decide +kernel)
theorem ls_wsX3_otherEnd_0 : GoodIn wsX3_otherEnd wsX30 := goodIn_sub (fun _ h => (List.mem_cons_of_mem _ (List.mem_append_right _ h))) (by decide +kernel)
set_option maxRecDepth 20000 in
theorem ggX3_otherEnd_X3_first : GoodIn wsX3_otherEnd wsX3_first := (gi_cons (lg_wsX3_otherEnd_0 _ (List.mem_of_getElem? (i := 4) rfl)) (goodIn_app (gi_cons (lg_wsX3_otherEnd_0 _ (List.mem_of_getElem? (i := 5) rfl)) (gi_cons (lg_wsX3_otherEnd_0 _ (List.mem_of_getElem? (i := 6) rfl)) (gi_cons (lg_wsX3_otherEnd_0 _ (List.mem_of_getElem? (i := 7) rfl)) (gi_cons (lg_wsX3_otherEnd_0 _ (List.mem_of_getElem? (i := 3) rfl)) (gi_cons (lg_wsX3_otherEnd_0 _ (List.mem_of_getElem? (i := 8) rfl)) (gi_cons (lg_wsX3_otherEnd_0 _ (List.mem_of_getElem? (i := 9) rfl)) (gi_cons (lg_wsX3_otherEnd_0 _ (List.mem_of_getElem? (i := 10) rfl)) (gi_cons (lg_wsX3_otherEnd_0 _ (List.mem_of_getElem? (i := 11) rfl)) (gi_cons (lg_wsX3_otherEnd_0 _ (List.mem_of_getElem? (i := 12) rfl)) (gi_cons (lg_wsX3_otherEnd_0 _ (List.mem_of_getElem? (i := 13) rfl)) (gi_cons (lg_wsX3_otherEnd_0 _ (List.mem_of_getElem? (i := 14) rfl)) (gi_cons (lg_wsX3_otherEnd_0 _ (List.mem_of_getElem? (i := 15) rfl)) (gi_cons (lg_wsX3_otherEnd_0 _ (List.mem_of_getElem? (i := 16) rfl)) (gi_cons (lg_wsX3_otherEnd_0 _ (List.mem_of_getElem? (i := 17) rfl)) (gi_cons (lg_wsX3_otherEnd_0 _ (List.mem_of_getElem? (i := 18) rfl)) (gi_cons (lg_wsX3_otherEnd_0 _ (List.mem_of_getElem? (i := 19) rfl)) gi_nil)))))))))))))))) ls_wsX3_otherEnd_0))
set_option maxRecDepth 20000 in
theorem gX3_otherEnd_X3_first : GoodIn wsX3_otherEnd (wsV RX3 42 RX3 yX3_first wsX3_first) := goodIn_app (gi_cons (lg_wsX3_otherEnd_0 _ (List.mem_of_getElem? (i := 0) rfl)) (gi_cons (lg_wsX3_otherEnd_0 _ (List.mem_of_getElem? (i := 1) rfl)) (gi_cons (lg_wsX3_otherEnd_0 _ (List.mem_of_getElem? (i := 2) rfl)) (gi_cons (lg_wsX3_otherEnd_0 _ (List.mem_of_getElem? (i := 3) rfl)) gi_nil)))) ggX3_otherEnd_X3_first
set_option maxRecDepth 20000 in
theorem ggX3_otherEnd_X3_last : GoodIn wsX3_otherEnd wsX3_last := (gi_cons (lg_wsX3_otherEnd_0 _ (List.mem_of_getElem? (i := 23) rfl)) (goodIn_app (gi_cons (lg_wsX3_otherEnd_0 _ (List.mem_of_getElem? (i := 10) rfl)) (gi_cons (lg_wsX3_otherEnd_0 _ (List.mem_of_getElem? (i := 11) rfl)) (gi_cons (lg_wsX3_otherEnd_0 _ (List.mem_of_getElem? (i := 12) rfl)) (gi_cons (lg_wsX3_otherEnd_0 _ (List.mem_of_getElem? (i := 3) rfl)) (gi_cons (lg_wsX3_otherEnd_0 _ (List.mem_of_getElem? (i := 13) rfl)) (gi_cons (lg_wsX3_otherEnd_0 _ (List.mem_of_getElem? (i := 14) rfl)) (gi_cons (lg_wsX3_otherEnd_0 _ (List.mem_of_getElem? (i := 15) rfl)) (gi_cons (lg_wsX3_otherEnd_0 _ (List.mem_of_getElem? (i := 16) rfl)) (gi_cons (lg_wsX3_otherEnd_0 _ (List.mem_of_getElem? (i := 17) rfl)) (gi_cons (lg_wsX3_otherEnd_0 _ (List.mem_of_getElem? (i := 18) rfl)) (gi_cons (lg_wsX3_otherEnd_0 _ (List.mem_of_getElem? (i := 19) rfl)) (gi_cons (lg_wsX3_otherEnd_0 _ (List.mem_of_getElem? (i := 5) rfl)) (gi_cons (lg_wsX3_otherEnd_0 _ (List.mem_of_getElem? (i := 6) rfl)) (gi_cons (lg_wsX3_otherEnd_0 _ (List.mem_of_getElem? (i := 7) rfl)) (gi_cons (lg_wsX3_otherEnd_0 _ (List.mem_of_getElem? (i := 8) rfl)) (gi_cons (lg_wsX3_otherEnd_0 _ (List.mem_of_getElem? (i := 9) rfl)) gi_nil)))))))))))))))) ls_wsX3_otherEnd_0))
set_option maxRecDepth 20000 in
theorem gX3_otherEnd_X3_last : GoodIn wsX3_otherEnd (wsV RX3 45 RX3 yX3_last wsX3_last) := goodIn_app (gi_cons (lg_wsX3_otherEnd_0 _ (List.mem_of_getElem? (i := 20) rfl)) (gi_cons (lg_wsX3_otherEnd_0 _ (List.mem_of_getElem? (i := 21) rfl)) (gi_cons (lg_wsX3_otherEnd_0 _ (List.mem_of_getElem? (i := 22) rfl)) (gi_cons (lg_wsX3_otherEnd_0 _ (List.mem_of_getElem? (i := 3) rfl)) gi_nil)))) ggX3_otherEnd_X3_last
theorem dX3_otherEnd_0 : decode cX3_otherEnd 0 = .ok (.aload_n 0, 1) := by decide +kernel
theorem dX3_otherEnd_1 : decode cX3_otherEnd 1 = .ok (.iload_n 1, 1) := by decide +kernel
theorem dX3_otherEnd_2 : decode cX3_otherEnd 2 = .ok (.invokevirtual 42, 3) := by decide +kernel
theorem dX3_otherEnd_5 : decode cX3_otherEnd 5 = .ok (.iload_n 2, 1) := by decide +kernel
theorem dX3_otherEnd_6 : decode cX3_otherEnd 6 = .ok (.if_icmp .ne 11, 3) := by decide +kernel
theorem dX3_otherEnd_9 : decode cX3_otherEnd 9 = .ok (.aload_n 0, 1) := by decide +kernel
theorem dX3_otherEnd_10 : decode cX3_otherEnd 10 = .ok (.iload_n 1, 1) := by decide +kernel
theorem dX3_otherEnd_11 : decode cX3_otherEnd 11 = .ok (.invokevirtual 45, 3) := by decide +kernel
theorem dX3_otherEnd_14 : decode cX3_otherEnd 14 = .ok (.goto 8, 3) := by decide +kernel
theorem dX3_otherEnd_17 : decode cX3_otherEnd 17 = .ok (.aload_n 0, 1) := by decide +kernel
theorem dX3_otherEnd_18 : decode cX3_otherEnd 18 = .ok (.iload_n 1, 1) := by decide +kernel
theorem dX3_otherEnd_19 : decode cX3_otherEnd 19 = .ok (.invokevirtual 42, 3) := by decide +kernel
theorem dX3_otherEnd_22 : decode cX3_otherEnd 22 = .ok (.ireturn, 1) := by decide +kernel
theorem lg_wsX3_endingAt_0 : GoodIn wsX3_endingAt wsX3_endingAt_r1 := goodIn_sub (fun _ h => (List.mem_cons_of_mem _ (List.mem_append_left _ (List.mem_append_left _ h)))) (by decide +kernel)
theorem lg_wsX3_endingAt_1 : GoodIn wsX3_endingAt wsX3_endingAt_r2 := goodIn_sub (fun _ h => (List.mem_cons_of_mem _ (List.mem_append_left _ (List.mem_append_right _ h)))) (by decide +kernel)
theorem ls_wsX3_endingAt_0 : GoodIn wsX3_endingAt wsX30 := goodIn_sub (fun _ h => (List.mem_cons_of_mem _ (List.mem_append_right _ h))) (by decide +kernel)
set_option maxRecDepth 20000 in
theorem ggX3_endingAt_X3_endsAt : GoodIn wsX3_endingAt wsX3_endsAt := (gi_cons (lg_wsX3_endingAt_0 _ (List.mem_of_getElem? (i := 5) rfl)) (goodIn_app (gi_cons (lg_wsX3_endingAt_0 _ (List.mem_of_getElem? (i := 6) rfl)) (gi_cons (lg_wsX3_endingAt_0 _ (List.mem_of_getElem? (i := 7) rfl)) (gi_cons (lg_wsX3_endingAt_0 _ (List.mem_of_getElem? (i := 8) rfl)) (gi_cons (lg_wsX3_endingAt_0 _ (List.mem_of_getElem? (i := 4) rfl)) (gi_cons (lg_wsX3_endingAt_0 _ (List.mem_of_getElem? (i := 9) rfl)) (gi_cons (lg_wsX3_endingAt_0 _ (List.mem_of_getElem? (i := 10) rfl)) (gi_cons (lg_wsX3_endingAt_0 _ (List.mem_of_getElem? (i := 11) rfl)) (gi_cons (lg_wsX3_endingAt_0 _ (List.mem_of_getElem? (i := 12) rfl)) (gi_cons (lg_wsX3_endingAt_0 _ (List.mem_of_getElem? (i := 13) rfl)) (gi_cons (lg_wsX3_endingAt_0 _ (List.mem_of_getElem? (i := 14) rfl)) (gi_cons (lg_wsX3_endingAt_0 _ (List.mem_of_getElem? (i := 15) rfl)) (gi_cons (lg_wsX3_endingAt_0 _ (List.mem_of_getElem? (i := 16) rfl)) (gi_cons (lg_wsX3_endingAt_0 _ (List.mem_of_getElem? (i := 17) rfl)) (gi_cons (lg_wsX3_endingAt_0 _ (List.mem_of_getElem? (i := 18) rfl)) (gi_cons (lg_wsX3_endingAt_0 _ (List.mem_of_getElem? (i := 0) rfl)) (gi_cons (lg_wsX3_endingAt_0 _ (List.mem_of_getElem? (i := 19) rfl)) (gi_cons (lg_wsX3_endingAt_0 _ (List.mem_of_getElem? (i := 20) rfl)) (gi_cons (lg_wsX3_endingAt_0 _ (List.mem_of_getElem? (i := 21) rfl)) (gi_cons (lg_wsX3_endingAt_0 _ (List.mem_of_getElem? (i := 22) rfl)) (gi_cons (lg_wsX3_endingAt_0 _ (List.mem_of_getElem? (i := 23) rfl)) (gi_cons (lg_wsX3_endingAt_1 _ (List.mem_of_getElem? (i := 0) rfl)) (gi_cons (lg_wsX3_endingAt_1 _ (List.mem_of_getElem? (i := 1) rfl)) (gi_cons (lg_wsX3_endingAt_1 _ (List.mem_of_getElem? (i := 2) rfl)) (gi_cons (lg_wsX3_endingAt_1 _ (List.mem_of_getElem? (i := 3) rfl)) gi_nil)))))))))))))))))))))))) ls_wsX3_endingAt_0))
set_option maxRecDepth 20000 in
theorem gX3_endingAt_X3_endsAt : GoodIn wsX3_endingAt (wsV RX3 48 RX3 yX3_endsAt wsX3_endsAt) := goodIn_app (gi_cons (lg_wsX3_endingAt_0 _ (List.mem_of_getElem? (i := 1) rfl)) (gi_cons (lg_wsX3_endingAt_0 _ (List.mem_of_getElem? (i := 2) rfl)) (gi_cons (lg_wsX3_endingAt_0 _ (List.mem_of_getElem? (i := 3) rfl)) (gi_cons (lg_wsX3_endingAt_0 _ (List.mem_of_getElem? (i := 4) rfl)) gi_nil)))) ggX3_endingAt_X3_endsAt
theorem dX3_endingAt_0 : decode cX3_endingAt 0 = .ok (.iload_n 2, 1) := by decide +kernel
theorem dX3_endingAt_1 : decode cX3_endingAt 1 = .ok (.istore_n 3, 1) := by decide +kernel
theorem dX3_endingAt_2 : decode cX3_endingAt 2 = .ok (.iload_n 3, 1) := by decide +kernel
theorem dX3_endingAt_3 : decode cX3_endingAt 3 = .ok (.aload_n 0, 1) := by decide +kernel
theorem dX3_endingAt_4 : decode cX3_endingAt 4 = .ok (.getfield 22, 3) := by decide +kernel
theorem dX3_endingAt_7 : decode cX3_endingAt 7 = .ok (.if_icmp .ge 20, 3) := by decide +kernel
theorem dX3_endingAt_10 : decode cX3_endingAt 10 = .ok (.aload_n 0, 1) := by decide +kernel
theorem dX3_endingAt_11 : decode cX3_endingAt 11 = .ok (.iload_n 3, 1) := by decide +kernel
theorem dX3_endingAt_12 : decode cX3_endingAt 12 = .ok (.iload_n 1, 1) := by decide +kernel
theorem dX3_endingAt_13 : decode cX3_endingAt 13 = .ok (.invokevirtual 48, 3) := by decide +kernel
theorem dX3_endingAt_16 : decode cX3_endingAt 16 = .ok (.ifCond .eq 5, 3) := by decide +kernel
theorem dX3_endingAt_19 : decode cX3_endingAt 19 = .ok (.iload_n 3, 1) := by decide +kernel
theorem dX3_endingAt_20 : decode cX3_endingAt 20 = .ok (.ireturn, 1) := by decide +kernel
theorem dX3_endingAt_21 : decode cX3_endingAt 21 = .ok (.iinc 3 1, 3) := by decide +kernel
theorem dX3_endingAt_24 : decode cX3_endingAt 24 = .ok (.goto (-22), 3) := by decide +kernel
theorem dX3_endingAt_27 : decode cX3_endingAt 27 = .ok (.iconst (-1), 1) := by decide +kernel
theorem dX3_endingAt_28 : decode cX3_endingAt 28 = .ok (.ireturn, 1) := by decide +kernel
theorem dX3_put_0 : decode cX3_put 0 = .ok (.aload_n 0, 1) := by decide +kernel
theorem dX3_put_1 : decode cX3_put 1 = .ok (.getfield 18, 3) := by decide +kernel
theorem dX3_put_4 : decode cX3_put 4 = .ok (.aload_n 0, 1) := by decide +kernel
theorem dX3_put_5 : decode cX3_put 5 = .ok (.getfield 9, 3) := by decide +kernel
theorem dX3_put_8 : decode cX3_put 8 = .ok (.arraylength, 1) := by decide +kernel
theorem dX3_put_9 : decode cX3_put 9 = .ok (.if_icmp .ge 23, 3) := by decide +kernel
theorem dX3_put_12 : decode cX3_put 12 = .ok (.aload_n 0, 1) := by decide +kernel
theorem dX3_put_13 : decode cX3_put 13 = .ok (.getfield 9, 3) := by decide +kernel
theorem dX3_put_16 : decode cX3_put 16 = .ok (.aload_n 0, 1) := by decide +kernel
theorem dX3_put_17 : decode cX3_put 17 = .ok (.getfield 18, 3) := by decide +kernel
theorem dX3_put_20 : decode cX3_put 20 = .ok (.iload_n 1, 1) := by decide +kernel
theorem dX3_put_21 : decode cX3_put 21 = .ok (.iastore, 1) := by decide +kernel
theorem dX3_put_22 : decode cX3_put 22 = .ok (.aload_n 0, 1) := by decide +kernel
theorem dX3_put_23 : decode cX3_put 23 = .ok (.dup, 1) := by decide +kernel
theorem dX3_put_24 : decode cX3_put 24 = .ok (.getfield 18, 3) := by decide +kernel
theorem dX3_put_27 : decode cX3_put 27 = .ok (.iconst 1, 1) := by decide +kernel
theorem dX3_put_28 : decode cX3_put 28 = .ok (.iadd, 1) := by decide +kernel
theorem dX3_put_29 : decode cX3_put 29 = .ok (.putfield 18, 3) := by decide +kernel
theorem dX3_put_32 : decode cX3_put 32 = .ok (.return_, 1) := by decide +kernel
theorem dX3_close_0 : decode cX3_close 0 = .ok (.aload_n 0, 1) := by decide +kernel
theorem dX3_close_1 : decode cX3_close 1 = .ok (.getfield 22, 3) := by decide +kernel
theorem dX3_close_4 : decode cX3_close 4 = .ok (.aload_n 0, 1) := by decide +kernel
theorem dX3_close_5 : decode cX3_close 5 = .ok (.getfield 15, 3) := by decide +kernel
theorem dX3_close_8 : decode cX3_close 8 = .ok (.arraylength, 1) := by decide +kernel
theorem dX3_close_9 : decode cX3_close 9 = .ok (.if_icmp .ge 26, 3) := by decide +kernel
theorem dX3_close_12 : decode cX3_close 12 = .ok (.aload_n 0, 1) := by decide +kernel
theorem dX3_close_13 : decode cX3_close 13 = .ok (.getfield 15, 3) := by decide +kernel
theorem dX3_close_16 : decode cX3_close 16 = .ok (.aload_n 0, 1) := by decide +kernel
theorem dX3_close_17 : decode cX3_close 17 = .ok (.getfield 22, 3) := by decide +kernel
theorem dX3_close_20 : decode cX3_close 20 = .ok (.aload_n 0, 1) := by decide +kernel
theorem dX3_close_21 : decode cX3_close 21 = .ok (.getfield 18, 3) := by decide +kernel
theorem dX3_close_24 : decode cX3_close 24 = .ok (.iastore, 1) := by decide +kernel
theorem dX3_close_25 : decode cX3_close 25 = .ok (.aload_n 0, 1) := by decide +kernel
theorem dX3_close_26 : decode cX3_close 26 = .ok (.dup, 1) := by decide +kernel
theorem dX3_close_27 : decode cX3_close 27 = .ok (.getfield 22, 3) := by decide +kernel
theorem dX3_close_30 : decode cX3_close 30 = .ok (.iconst 1, 1) := by decide +kernel
theorem dX3_close_31 : decode cX3_close 31 = .ok (.iadd, 1) := by decide +kernel
theorem dX3_close_32 : decode cX3_close 32 = .ok (.putfield 22, 3) := by decide +kernel
theorem dX3_close_35 : decode cX3_close 35 = .ok (.return_, 1) := by decide +kernel
theorem dX3_addRow_0 : decode cX3_addRow 0 = .ok (.iload_n 3, 1) := by decide +kernel
theorem dX3_addRow_1 : decode cX3_addRow 1 = .ok (.iload_n 2, 1) := by decide +kernel
theorem dX3_addRow_2 : decode cX3_addRow 2 = .ok (.isub, 1) := by decide +kernel
theorem dX3_addRow_3 : decode cX3_addRow 3 = .ok (.istore 4, 2) := by decide +kernel
theorem dX3_addRow_5 : decode cX3_addRow 5 = .ok (.iload_n 2, 1) := by decide +kernel
theorem dX3_addRow_6 : decode cX3_addRow 6 = .ok (.ifCond .lt 41, 3) := by decide +kernel
theorem dX3_addRow_9 : decode cX3_addRow 9 = .ok (.iload 4, 2) := by decide +kernel
theorem dX3_addRow_11 : decode cX3_addRow 11 = .ok (.ifCond .lt 36, 3) := by decide +kernel
theorem dX3_addRow_14 : decode cX3_addRow 14 = .ok (.iload_n 3, 1) := by decide +kernel
theorem dX3_addRow_15 : decode cX3_addRow 15 = .ok (.aload_n 1, 1) := by decide +kernel
theorem dX3_addRow_16 : decode cX3_addRow 16 = .ok (.arraylength, 1) := by decide +kernel
theorem dX3_addRow_17 : decode cX3_addRow 17 = .ok (.if_icmp .gt 30, 3) := by decide +kernel
theorem dX3_addRow_20 : decode cX3_addRow 20 = .ok (.aload_n 0, 1) := by decide +kernel
theorem dX3_addRow_21 : decode cX3_addRow 21 = .ok (.getfield 22, 3) := by decide +kernel
theorem dX3_addRow_24 : decode cX3_addRow 24 = .ok (.aload_n 0, 1) := by decide +kernel
theorem dX3_addRow_25 : decode cX3_addRow 25 = .ok (.getfield 15, 3) := by decide +kernel
theorem dX3_addRow_28 : decode cX3_addRow 28 = .ok (.arraylength, 1) := by decide +kernel
theorem dX3_addRow_29 : decode cX3_addRow 29 = .ok (.if_icmp .ge 18, 3) := by decide +kernel
theorem dX3_addRow_32 : decode cX3_addRow 32 = .ok (.iload 4, 2) := by decide +kernel
theorem dX3_addRow_34 : decode cX3_addRow 34 = .ok (.aload_n 0, 1) := by decide +kernel
theorem dX3_addRow_35 : decode cX3_addRow 35 = .ok (.getfield 9, 3) := by decide +kernel
theorem dX3_addRow_38 : decode cX3_addRow 38 = .ok (.arraylength, 1) := by decide +kernel
theorem dX3_addRow_39 : decode cX3_addRow 39 = .ok (.aload_n 0, 1) := by decide +kernel
theorem dX3_addRow_40 : decode cX3_addRow 40 = .ok (.getfield 18, 3) := by decide +kernel
theorem dX3_addRow_43 : decode cX3_addRow 43 = .ok (.isub, 1) := by decide +kernel
theorem dX3_addRow_44 : decode cX3_addRow 44 = .ok (.if_icmp .le 4, 3) := by decide +kernel
theorem dX3_addRow_47 : decode cX3_addRow 47 = .ok (.return_, 1) := by decide +kernel
theorem dX3_addRow_48 : decode cX3_addRow 48 = .ok (.aload_n 1, 1) := by decide +kernel
theorem dX3_addRow_49 : decode cX3_addRow 49 = .ok (.iload_n 2, 1) := by decide +kernel
theorem dX3_addRow_50 : decode cX3_addRow 50 = .ok (.aload_n 0, 1) := by decide +kernel
theorem dX3_addRow_51 : decode cX3_addRow 51 = .ok (.getfield 9, 3) := by decide +kernel
theorem dX3_addRow_54 : decode cX3_addRow 54 = .ok (.aload_n 0, 1) := by decide +kernel
theorem dX3_addRow_55 : decode cX3_addRow 55 = .ok (.getfield 18, 3) := by decide +kernel
theorem dX3_addRow_58 : decode cX3_addRow 58 = .ok (.iload 4, 2) := by decide +kernel
theorem dX3_addRow_60 : decode cX3_addRow 60 = .ok (.invokestatic 25, 3) := by decide +kernel
theorem dX3_addRow_63 : decode cX3_addRow 63 = .ok (.aload_n 0, 1) := by decide +kernel
theorem dX3_addRow_64 : decode cX3_addRow 64 = .ok (.dup, 1) := by decide +kernel
theorem dX3_addRow_65 : decode cX3_addRow 65 = .ok (.getfield 18, 3) := by decide +kernel
theorem dX3_addRow_68 : decode cX3_addRow 68 = .ok (.iload 4, 2) := by decide +kernel
theorem dX3_addRow_70 : decode cX3_addRow 70 = .ok (.iadd, 1) := by decide +kernel
theorem dX3_addRow_71 : decode cX3_addRow 71 = .ok (.putfield 18, 3) := by decide +kernel
theorem dX3_addRow_74 : decode cX3_addRow 74 = .ok (.aload_n 0, 1) := by decide +kernel
theorem dX3_addRow_75 : decode cX3_addRow 75 = .ok (.getfield 15, 3) := by decide +kernel
theorem dX3_addRow_78 : decode cX3_addRow 78 = .ok (.aload_n 0, 1) := by decide +kernel
theorem dX3_addRow_79 : decode cX3_addRow 79 = .ok (.getfield 22, 3) := by decide +kernel
theorem dX3_addRow_82 : decode cX3_addRow 82 = .ok (.aload_n 0, 1) := by decide +kernel
theorem dX3_addRow_83 : decode cX3_addRow 83 = .ok (.getfield 18, 3) := by decide +kernel
theorem dX3_addRow_86 : decode cX3_addRow 86 = .ok (.iastore, 1) := by decide +kernel
theorem dX3_addRow_87 : decode cX3_addRow 87 = .ok (.aload_n 0, 1) := by decide +kernel
theorem dX3_addRow_88 : decode cX3_addRow 88 = .ok (.dup, 1) := by decide +kernel
theorem dX3_addRow_89 : decode cX3_addRow 89 = .ok (.getfield 22, 3) := by decide +kernel
theorem dX3_addRow_92 : decode cX3_addRow 92 = .ok (.iconst 1, 1) := by decide +kernel
theorem dX3_addRow_93 : decode cX3_addRow 93 = .ok (.iadd, 1) := by decide +kernel
theorem dX3_addRow_94 : decode cX3_addRow 94 = .ok (.putfield 22, 3) := by decide +kernel
theorem dX3_addRow_97 : decode cX3_addRow 97 = .ok (.return_, 1) := by decide +kernel
theorem dX4_init_0 : decode cX4_init 0 = .ok (.aload_n 0, 1) := by decide +kernel
theorem dX4_init_1 : decode cX4_init 1 = .ok (.invokespecial 3, 3) := by decide +kernel
theorem dX4_init_4 : decode cX4_init 4 = .ok (.aload_n 0, 1) := by decide +kernel
theorem dX4_init_5 : decode cX4_init 5 = .ok (.bipush 64, 2) := by decide +kernel
theorem dX4_init_7 : decode cX4_init 7 = .ok (.newarray .int, 2) := by decide +kernel
theorem dX4_init_9 : decode cX4_init 9 = .ok (.putfield 9, 3) := by decide +kernel
theorem dX4_init_12 : decode cX4_init 12 = .ok (.aload_n 0, 1) := by decide +kernel
theorem dX4_init_13 : decode cX4_init 13 = .ok (.bipush 64, 2) := by decide +kernel
theorem dX4_init_15 : decode cX4_init 15 = .ok (.newarray .int, 2) := by decide +kernel
theorem dX4_init_17 : decode cX4_init 17 = .ok (.putfield 15, 3) := by decide +kernel
theorem dX4_init_20 : decode cX4_init 20 = .ok (.aload_n 0, 1) := by decide +kernel
theorem dX4_init_21 : decode cX4_init 21 = .ok (.bipush 64, 2) := by decide +kernel
theorem dX4_init_23 : decode cX4_init 23 = .ok (.newarray .int, 2) := by decide +kernel
theorem dX4_init_25 : decode cX4_init 25 = .ok (.putfield 18, 3) := by decide +kernel
theorem dX4_init_28 : decode cX4_init 28 = .ok (.aload_n 0, 1) := by decide +kernel
theorem dX4_init_29 : decode cX4_init 29 = .ok (.bipush 64, 2) := by decide +kernel
theorem dX4_init_31 : decode cX4_init 31 = .ok (.newarray .int, 2) := by decide +kernel
theorem dX4_init_33 : decode cX4_init 33 = .ok (.putfield 21, 3) := by decide +kernel
theorem dX4_init_36 : decode cX4_init 36 = .ok (.return_, 1) := by decide +kernel
theorem lg_wsX4_read_0 : GoodIn wsX4_read wsX4_read_r1 := goodIn_sub (fun _ h => (List.mem_cons_of_mem _ (List.mem_append_left _ (List.mem_append_left _ (List.mem_append_left _ (List.mem_append_left _ (List.mem_append_left _ h))))))) (by decide +kernel)
theorem lg_wsX4_read_1 : GoodIn wsX4_read wsX4_read_r2 := goodIn_sub (fun _ h => (List.mem_cons_of_mem _ (List.mem_append_left _ (List.mem_append_left _ (List.mem_append_left _ (List.mem_append_left _ (List.mem_append_right _ (List.mem_append_left _ h)))))))) (by decide +kernel)
theorem lg_wsX4_read_2 : GoodIn wsX4_read wsX4_read_r3 := goodIn_sub (fun _ h => (List.mem_cons_of_mem _ (List.mem_append_left _ (List.mem_append_left _ (List.mem_append_left _ (List.mem_append_left _ (List.mem_append_right _ (List.mem_append_right _ h)))))))) (by decide +kernel)
theorem ls_wsX4_read_0 : GoodIn wsX4_read wsX40 := goodIn_sub (fun _ h => (List.mem_cons_of_mem _ (List.mem_append_left _ (List.mem_append_left _ (List.mem_append_left _ (List.mem_append_right _ h)))))) (by decide +kernel)
theorem ls_wsX4_read_1 : GoodIn wsX4_read wsX00 := goodIn_sub (fun _ h => (List.mem_cons_of_mem _ (List.mem_append_left _ (List.mem_append_left _ (List.mem_append_right _ h))))) (by decide +kernel)
theorem ls_wsX4_read_2 : GoodIn wsX4_read wsX30 := goodIn_sub (fun _ h => (List.mem_cons_of_mem _ (List.mem_append_left _ (List.mem_append_right _ h)))) (by decide +kernel)
theorem ls_wsX4_read_3 : GoodIn wsX4_read wsX10 := goodIn_sub (fun _ h => (List.mem_cons_of_mem _ (List.mem_append_right _ h))) (by decide +kernel)
set_option maxRecDepth 20000 in
theorem ggX4_read_X4_readTunnel : GoodIn wsX4_read wsX4_readTunnel := (gi_cons (lg_wsX4_read_0 _ (List.mem_of_getElem? (i := 11) rfl)) (goodIn_app (goodIn_app (gi_cons (lg_wsX4_read_0 _ (List.mem_of_getElem? (i := 12) rfl)) (gi_cons (lg_wsX4_read_0 _ (List.mem_of_getElem? (i := 2) rfl)) (gi_cons (lg_wsX4_read_0 _ (List.mem_of_getElem? (i := 1) rfl)) (gi_cons (lg_wsX4_read_0 _ (List.mem_of_getElem? (i := 0) rfl)) (gi_cons (lg_wsX4_read_0 _ (List.mem_of_getElem? (i := 13) rfl)) (gi_cons (lg_wsX4_read_0 _ (List.mem_of_getElem? (i := 14) rfl)) (gi_cons (lg_wsX4_read_0 _ (List.mem_of_getElem? (i := 15) rfl)) (gi_cons (lg_wsX4_read_0 _ (List.mem_of_getElem? (i := 16) rfl)) (gi_cons (lg_wsX4_read_0 _ (List.mem_of_getElem? (i := 17) rfl)) (gi_cons (lg_wsX4_read_0 _ (List.mem_of_getElem? (i := 18) rfl)) (gi_cons (lg_wsX4_read_0 _ (List.mem_of_getElem? (i := 19) rfl)) (gi_cons (lg_wsX4_read_0 _ (List.mem_of_getElem? (i := 20) rfl)) (gi_cons (lg_wsX4_read_0 _ (List.mem_of_getElem? (i := 21) rfl)) (gi_cons (lg_wsX4_read_0 _ (List.mem_of_getElem? (i := 22) rfl)) (gi_cons (lg_wsX4_read_0 _ (List.mem_of_getElem? (i := 23) rfl)) gi_nil))))))))))))))) ls_wsX4_read_2) ls_wsX4_read_0))
set_option maxRecDepth 20000 in
theorem gX4_read_X4_readTunnel : GoodIn wsX4_read (wsV RX4 36 RX4 yX4_readTunnel wsX4_readTunnel) := goodIn_app (gi_cons (lg_wsX4_read_0 _ (List.mem_of_getElem? (i := 7) rfl)) (gi_cons (lg_wsX4_read_0 _ (List.mem_of_getElem? (i := 8) rfl)) (gi_cons (lg_wsX4_read_0 _ (List.mem_of_getElem? (i := 9) rfl)) (gi_cons (lg_wsX4_read_0 _ (List.mem_of_getElem? (i := 10) rfl)) gi_nil)))) ggX4_read_X4_readTunnel
set_option maxRecDepth 20000 in
theorem ggX4_read_X4_readTrail : GoodIn wsX4_read wsX4_readTrail := (gi_cons (lg_wsX4_read_1 _ (List.mem_of_getElem? (i := 3) rfl)) (goodIn_app (goodIn_app (gi_cons (lg_wsX4_read_1 _ (List.mem_of_getElem? (i := 4) rfl)) (gi_cons (lg_wsX4_read_0 _ (List.mem_of_getElem? (i := 0) rfl)) (gi_cons (lg_wsX4_read_1 _ (List.mem_of_getElem? (i := 5) rfl)) gi_nil))) ls_wsX4_read_3) ls_wsX4_read_0))
set_option maxRecDepth 20000 in
theorem gX4_read_X4_readTrail : GoodIn wsX4_read (wsV RX4 47 RX4 yX4_readTrail wsX4_readTrail) := goodIn_app (gi_cons (lg_wsX4_read_1 _ (List.mem_of_getElem? (i := 0) rfl)) (gi_cons (lg_wsX4_read_1 _ (List.mem_of_getElem? (i := 1) rfl)) (gi_cons (lg_wsX4_read_1 _ (List.mem_of_getElem? (i := 2) rfl)) (gi_cons (lg_wsX4_read_0 _ (List.mem_of_getElem? (i := 10) rfl)) gi_nil)))) ggX4_read_X4_readTrail
set_option maxRecDepth 20000 in
theorem ggX4_read_X4_findSure : GoodIn wsX4_read wsX4_findSure := (gi_cons (lg_wsX4_read_1 _ (List.mem_of_getElem? (i := 9) rfl)) (goodIn_app (goodIn_app (gi_cons (lg_wsX4_read_1 _ (List.mem_of_getElem? (i := 10) rfl)) (gi_cons (lg_wsX4_read_1 _ (List.mem_of_getElem? (i := 11) rfl)) (gi_cons (lg_wsX4_read_0 _ (List.mem_of_getElem? (i := 0) rfl)) (gi_cons (lg_wsX4_read_1 _ (List.mem_of_getElem? (i := 12) rfl)) (gi_cons (lg_wsX4_read_1 _ (List.mem_of_getElem? (i := 13) rfl)) (gi_cons (lg_wsX4_read_1 _ (List.mem_of_getElem? (i := 14) rfl)) (gi_cons (lg_wsX4_read_0 _ (List.mem_of_getElem? (i := 10) rfl)) (gi_cons (lg_wsX4_read_1 _ (List.mem_of_getElem? (i := 15) rfl)) (gi_cons (lg_wsX4_read_1 _ (List.mem_of_getElem? (i := 16) rfl)) (gi_cons (lg_wsX4_read_1 _ (List.mem_of_getElem? (i := 17) rfl)) (gi_cons (lg_wsX4_read_1 _ (List.mem_of_getElem? (i := 18) rfl)) (gi_cons (lg_wsX4_read_1 _ (List.mem_of_getElem? (i := 19) rfl)) (gi_cons (lg_wsX4_read_1 _ (List.mem_of_getElem? (i := 20) rfl)) (gi_cons (lg_wsX4_read_1 _ (List.mem_of_getElem? (i := 21) rfl)) (gi_cons (lg_wsX4_read_1 _ (List.mem_of_getElem? (i := 22) rfl)) (gi_cons (lg_wsX4_read_1 _ (List.mem_of_getElem? (i := 23) rfl)) (gi_cons (lg_wsX4_read_2 _ (List.mem_of_getElem? (i := 0) rfl)) (gi_cons (lg_wsX4_read_2 _ (List.mem_of_getElem? (i := 1) rfl)) (gi_cons (lg_wsX4_read_2 _ (List.mem_of_getElem? (i := 2) rfl)) (gi_cons (lg_wsX4_read_2 _ (List.mem_of_getElem? (i := 3) rfl)) (gi_cons (lg_wsX4_read_2 _ (List.mem_of_getElem? (i := 4) rfl)) (gi_cons (lg_wsX4_read_2 _ (List.mem_of_getElem? (i := 5) rfl)) (gi_cons (lg_wsX4_read_2 _ (List.mem_of_getElem? (i := 6) rfl)) (gi_cons (lg_wsX4_read_2 _ (List.mem_of_getElem? (i := 7) rfl)) gi_nil)))))))))))))))))))))))) ls_wsX4_read_0) ls_wsX4_read_1))
set_option maxRecDepth 20000 in
theorem gX4_read_X4_findSure : GoodIn wsX4_read (wsV RX4 51 RX4 yX4_findSure wsX4_findSure) := goodIn_app (gi_cons (lg_wsX4_read_1 _ (List.mem_of_getElem? (i := 6) rfl)) (gi_cons (lg_wsX4_read_1 _ (List.mem_of_getElem? (i := 7) rfl)) (gi_cons (lg_wsX4_read_1 _ (List.mem_of_getElem? (i := 8) rfl)) (gi_cons (lg_wsX4_read_0 _ (List.mem_of_getElem? (i := 10) rfl)) gi_nil)))) ggX4_read_X4_findSure
theorem dX4_read_0 : decode cX4_read 0 = .ok (.iconst 0, 1) := by decide +kernel
theorem dX4_read_1 : decode cX4_read 1 = .ok (.istore_n 2, 1) := by decide +kernel
theorem dX4_read_2 : decode cX4_read 2 = .ok (.iload_n 2, 1) := by decide +kernel
theorem dX4_read_3 : decode cX4_read 3 = .ok (.bipush 64, 2) := by decide +kernel
theorem dX4_read_5 : decode cX4_read 5 = .ok (.if_icmp .ge 30, 3) := by decide +kernel
theorem dX4_read_8 : decode cX4_read 8 = .ok (.aload_n 0, 1) := by decide +kernel
theorem dX4_read_9 : decode cX4_read 9 = .ok (.getfield 9, 3) := by decide +kernel
theorem dX4_read_12 : decode cX4_read 12 = .ok (.iload_n 2, 1) := by decide +kernel
theorem dX4_read_13 : decode cX4_read 13 = .ok (.iconst 0, 1) := by decide +kernel
theorem dX4_read_14 : decode cX4_read 14 = .ok (.iastore, 1) := by decide +kernel
theorem dX4_read_15 : decode cX4_read 15 = .ok (.aload_n 0, 1) := by decide +kernel
theorem dX4_read_16 : decode cX4_read 16 = .ok (.getfield 15, 3) := by decide +kernel
theorem dX4_read_19 : decode cX4_read 19 = .ok (.iload_n 2, 1) := by decide +kernel
theorem dX4_read_20 : decode cX4_read 20 = .ok (.iconst 0, 1) := by decide +kernel
theorem dX4_read_21 : decode cX4_read 21 = .ok (.iastore, 1) := by decide +kernel
theorem dX4_read_22 : decode cX4_read 22 = .ok (.aload_n 0, 1) := by decide +kernel
theorem dX4_read_23 : decode cX4_read 23 = .ok (.getfield 21, 3) := by decide +kernel
theorem dX4_read_26 : decode cX4_read 26 = .ok (.iload_n 2, 1) := by decide +kernel
theorem dX4_read_27 : decode cX4_read 27 = .ok (.iconst (-1), 1) := by decide +kernel
theorem dX4_read_28 : decode cX4_read 28 = .ok (.iastore, 1) := by decide +kernel
theorem dX4_read_29 : decode cX4_read 29 = .ok (.iinc 2 1, 3) := by decide +kernel
theorem dX4_read_32 : decode cX4_read 32 = .ok (.goto (-30), 3) := by decide +kernel
theorem dX4_read_35 : decode cX4_read 35 = .ok (.iconst 0, 1) := by decide +kernel
theorem dX4_read_36 : decode cX4_read 36 = .ok (.istore_n 2, 1) := by decide +kernel
theorem dX4_read_37 : decode cX4_read 37 = .ok (.iload_n 2, 1) := by decide +kernel
theorem dX4_read_38 : decode cX4_read 38 = .ok (.aload_n 1, 1) := by decide +kernel
theorem dX4_read_39 : decode cX4_read 39 = .ok (.getfield 24, 3) := by decide +kernel
theorem dX4_read_42 : decode cX4_read 42 = .ok (.getfield 30, 3) := by decide +kernel
theorem dX4_read_45 : decode cX4_read 45 = .ok (.if_icmp .ge 18, 3) := by decide +kernel
theorem dX4_read_48 : decode cX4_read 48 = .ok (.aload_n 0, 1) := by decide +kernel
theorem dX4_read_49 : decode cX4_read 49 = .ok (.aload_n 1, 1) := by decide +kernel
theorem dX4_read_50 : decode cX4_read 50 = .ok (.getfield 24, 3) := by decide +kernel
theorem dX4_read_53 : decode cX4_read 53 = .ok (.iload_n 2, 1) := by decide +kernel
theorem dX4_read_54 : decode cX4_read 54 = .ok (.invokevirtual 36, 3) := by decide +kernel
theorem dX4_read_57 : decode cX4_read 57 = .ok (.iinc 2 1, 3) := by decide +kernel
theorem dX4_read_60 : decode cX4_read 60 = .ok (.goto (-23), 3) := by decide +kernel
theorem dX4_read_63 : decode cX4_read 63 = .ok (.iconst 0, 1) := by decide +kernel
theorem dX4_read_64 : decode cX4_read 64 = .ok (.istore_n 2, 1) := by decide +kernel
theorem dX4_read_65 : decode cX4_read 65 = .ok (.iload_n 2, 1) := by decide +kernel
theorem dX4_read_66 : decode cX4_read 66 = .ok (.aload_n 1, 1) := by decide +kernel
theorem dX4_read_67 : decode cX4_read 67 = .ok (.getfield 40, 3) := by decide +kernel
theorem dX4_read_70 : decode cX4_read 70 = .ok (.if_icmp .ge 19, 3) := by decide +kernel
theorem dX4_read_73 : decode cX4_read 73 = .ok (.aload_n 0, 1) := by decide +kernel
theorem dX4_read_74 : decode cX4_read 74 = .ok (.aload_n 1, 1) := by decide +kernel
theorem dX4_read_75 : decode cX4_read 75 = .ok (.getfield 43, 3) := by decide +kernel
theorem dX4_read_78 : decode cX4_read 78 = .ok (.iload_n 2, 1) := by decide +kernel
theorem dX4_read_79 : decode cX4_read 79 = .ok (.aaload, 1) := by decide +kernel
theorem dX4_read_80 : decode cX4_read 80 = .ok (.invokevirtual 47, 3) := by decide +kernel
theorem dX4_read_83 : decode cX4_read 83 = .ok (.iinc 2 1, 3) := by decide +kernel
theorem dX4_read_86 : decode cX4_read 86 = .ok (.goto (-21), 3) := by decide +kernel
theorem dX4_read_89 : decode cX4_read 89 = .ok (.aload_n 0, 1) := by decide +kernel
theorem dX4_read_90 : decode cX4_read 90 = .ok (.aload_n 1, 1) := by decide +kernel
theorem dX4_read_91 : decode cX4_read 91 = .ok (.invokevirtual 51, 3) := by decide +kernel
theorem dX4_read_94 : decode cX4_read 94 = .ok (.return_, 1) := by decide +kernel
theorem lg_wsX4_readTunnel_0 : GoodIn wsX4_readTunnel ([.fieldLink RX4 62 "MolesLawn$Rows" "cells" "[I", .fieldLink RX4 21 "MolesLawn$Survey" "seenBy" "[I", .fieldLink RX4 15 "MolesLawn$Survey" "crossings" "[I", .fieldLink RX4 9 "MolesLawn$Survey" "hollow" "[I", .methodLink RX4 55 yX3_to, .instanceMethod yX3_to, .selects RX3 yX3_to yX3_to, .initialized RX3, .code yX3_to cX3_to 2 (some .int), .fieldLink RX3 22 "MolesLawn$Rows" "size" "I", .fieldLink RX3 15 "MolesLawn$Rows" "ends" "[I", .methodLink RX4 59 yX3_from, .instanceMethod yX3_from, .selects RX3 yX3_from yX3_from, .code yX3_from cX3_from 2 (some .int)] : List Cond) := goodIn_sub (fun _ h => (List.mem_cons_of_mem _ (List.mem_append_left _ (List.mem_append_left _ h)))) (by decide +kernel)
theorem ls_wsX4_readTunnel_0 : GoodIn wsX4_readTunnel wsX30 := goodIn_sub (fun _ h => (List.mem_cons_of_mem _ (List.mem_append_left _ (List.mem_append_right _ h)))) (by decide +kernel)
theorem ls_wsX4_readTunnel_1 : GoodIn wsX4_readTunnel wsX40 := goodIn_sub (fun _ h => (List.mem_cons_of_mem _ (List.mem_append_right _ h))) (by decide +kernel)
set_option maxRecDepth 20000 in
theorem ggX4_readTunnel_X3_to : GoodIn wsX4_readTunnel wsX3_to := (gi_cons (lg_wsX4_readTunnel_0 _ (List.mem_of_getElem? (i := 8) rfl)) (goodIn_app (gi_cons (lg_wsX4_readTunnel_0 _ (List.mem_of_getElem? (i := 9) rfl)) (gi_cons (lg_wsX4_readTunnel_0 _ (List.mem_of_getElem? (i := 10) rfl)) gi_nil)) ls_wsX4_readTunnel_0))
set_option maxRecDepth 20000 in
theorem gX4_readTunnel_X3_to : GoodIn wsX4_readTunnel (wsV RX4 55 RX3 yX3_to wsX3_to) := goodIn_app (gi_cons (lg_wsX4_readTunnel_0 _ (List.mem_of_getElem? (i := 4) rfl)) (gi_cons (lg_wsX4_readTunnel_0 _ (List.mem_of_getElem? (i := 5) rfl)) (gi_cons (lg_wsX4_readTunnel_0 _ (List.mem_of_getElem? (i := 6) rfl)) (gi_cons (lg_wsX4_readTunnel_0 _ (List.mem_of_getElem? (i := 7) rfl)) gi_nil)))) ggX4_readTunnel_X3_to
set_option maxRecDepth 20000 in
theorem ggX4_readTunnel_X3_from : GoodIn wsX4_readTunnel wsX3_from := (gi_cons (lg_wsX4_readTunnel_0 _ (List.mem_of_getElem? (i := 14) rfl)) (goodIn_app (gi_cons (lg_wsX4_readTunnel_0 _ (List.mem_of_getElem? (i := 9) rfl)) (gi_cons (lg_wsX4_readTunnel_0 _ (List.mem_of_getElem? (i := 10) rfl)) gi_nil)) ls_wsX4_readTunnel_0))
set_option maxRecDepth 20000 in
theorem gX4_readTunnel_X3_from : GoodIn wsX4_readTunnel (wsV RX4 59 RX3 yX3_from wsX3_from) := goodIn_app (gi_cons (lg_wsX4_readTunnel_0 _ (List.mem_of_getElem? (i := 11) rfl)) (gi_cons (lg_wsX4_readTunnel_0 _ (List.mem_of_getElem? (i := 12) rfl)) (gi_cons (lg_wsX4_readTunnel_0 _ (List.mem_of_getElem? (i := 13) rfl)) (gi_cons (lg_wsX4_readTunnel_0 _ (List.mem_of_getElem? (i := 7) rfl)) gi_nil)))) ggX4_readTunnel_X3_from
theorem dX4_readTunnel_0 : decode cX4_readTunnel 0 = .ok (.aload_n 1, 1) := by decide +kernel
theorem dX4_readTunnel_1 : decode cX4_readTunnel 1 = .ok (.iload_n 2, 1) := by decide +kernel
theorem dX4_readTunnel_2 : decode cX4_readTunnel 2 = .ok (.invokevirtual 55, 3) := by decide +kernel
theorem dX4_readTunnel_5 : decode cX4_readTunnel 5 = .ok (.istore_n 3, 1) := by decide +kernel
theorem dX4_readTunnel_6 : decode cX4_readTunnel 6 = .ok (.aload_n 1, 1) := by decide +kernel
theorem dX4_readTunnel_7 : decode cX4_readTunnel 7 = .ok (.iload_n 2, 1) := by decide +kernel
theorem dX4_readTunnel_8 : decode cX4_readTunnel 8 = .ok (.invokevirtual 59, 3) := by decide +kernel
theorem dX4_readTunnel_11 : decode cX4_readTunnel 11 = .ok (.istore 4, 2) := by decide +kernel
theorem dX4_readTunnel_13 : decode cX4_readTunnel 13 = .ok (.iload 4, 2) := by decide +kernel
theorem dX4_readTunnel_15 : decode cX4_readTunnel 15 = .ok (.iload_n 3, 1) := by decide +kernel
theorem dX4_readTunnel_16 : decode cX4_readTunnel 16 = .ok (.if_icmp .ge 56, 3) := by decide +kernel
theorem dX4_readTunnel_19 : decode cX4_readTunnel 19 = .ok (.aload_n 1, 1) := by decide +kernel
theorem dX4_readTunnel_20 : decode cX4_readTunnel 20 = .ok (.getfield 62, 3) := by decide +kernel
theorem dX4_readTunnel_23 : decode cX4_readTunnel 23 = .ok (.iload 4, 2) := by decide +kernel
theorem dX4_readTunnel_25 : decode cX4_readTunnel 25 = .ok (.iaload, 1) := by decide +kernel
theorem dX4_readTunnel_26 : decode cX4_readTunnel 26 = .ok (.istore 5, 2) := by decide +kernel
theorem dX4_readTunnel_28 : decode cX4_readTunnel 28 = .ok (.aload_n 0, 1) := by decide +kernel
theorem dX4_readTunnel_29 : decode cX4_readTunnel 29 = .ok (.getfield 21, 3) := by decide +kernel
theorem dX4_readTunnel_32 : decode cX4_readTunnel 32 = .ok (.iload 5, 2) := by decide +kernel
theorem dX4_readTunnel_34 : decode cX4_readTunnel 34 = .ok (.iaload, 1) := by decide +kernel
theorem dX4_readTunnel_35 : decode cX4_readTunnel 35 = .ok (.iload_n 2, 1) := by decide +kernel
theorem dX4_readTunnel_36 : decode cX4_readTunnel 36 = .ok (.if_icmp .eq 30, 3) := by decide +kernel
theorem dX4_readTunnel_39 : decode cX4_readTunnel 39 = .ok (.aload_n 0, 1) := by decide +kernel
theorem dX4_readTunnel_40 : decode cX4_readTunnel 40 = .ok (.getfield 21, 3) := by decide +kernel
theorem dX4_readTunnel_43 : decode cX4_readTunnel 43 = .ok (.iload 5, 2) := by decide +kernel
theorem dX4_readTunnel_45 : decode cX4_readTunnel 45 = .ok (.iload_n 2, 1) := by decide +kernel
theorem dX4_readTunnel_46 : decode cX4_readTunnel 46 = .ok (.iastore, 1) := by decide +kernel
theorem dX4_readTunnel_47 : decode cX4_readTunnel 47 = .ok (.aload_n 0, 1) := by decide +kernel
theorem dX4_readTunnel_48 : decode cX4_readTunnel 48 = .ok (.getfield 15, 3) := by decide +kernel
theorem dX4_readTunnel_51 : decode cX4_readTunnel 51 = .ok (.iload 5, 2) := by decide +kernel
theorem dX4_readTunnel_53 : decode cX4_readTunnel 53 = .ok (.dup2, 1) := by decide +kernel
theorem dX4_readTunnel_54 : decode cX4_readTunnel 54 = .ok (.iaload, 1) := by decide +kernel
theorem dX4_readTunnel_55 : decode cX4_readTunnel 55 = .ok (.iconst 1, 1) := by decide +kernel
theorem dX4_readTunnel_56 : decode cX4_readTunnel 56 = .ok (.iadd, 1) := by decide +kernel
theorem dX4_readTunnel_57 : decode cX4_readTunnel 57 = .ok (.iastore, 1) := by decide +kernel
theorem dX4_readTunnel_58 : decode cX4_readTunnel 58 = .ok (.aload_n 0, 1) := by decide +kernel
theorem dX4_readTunnel_59 : decode cX4_readTunnel 59 = .ok (.getfield 9, 3) := by decide +kernel
theorem dX4_readTunnel_62 : decode cX4_readTunnel 62 = .ok (.iload 5, 2) := by decide +kernel
theorem dX4_readTunnel_64 : decode cX4_readTunnel 64 = .ok (.iconst 1, 1) := by decide +kernel
theorem dX4_readTunnel_65 : decode cX4_readTunnel 65 = .ok (.iastore, 1) := by decide +kernel
theorem dX4_readTunnel_66 : decode cX4_readTunnel 66 = .ok (.iinc 4 1, 3) := by decide +kernel
theorem dX4_readTunnel_69 : decode cX4_readTunnel 69 = .ok (.goto (-56), 3) := by decide +kernel
theorem dX4_readTunnel_72 : decode cX4_readTunnel 72 = .ok (.return_, 1) := by decide +kernel
theorem dX4_readTrail_0 : decode cX4_readTrail 0 = .ok (.iconst 0, 1) := by decide +kernel
theorem dX4_readTrail_1 : decode cX4_readTrail 1 = .ok (.istore_n 2, 1) := by decide +kernel
theorem dX4_readTrail_2 : decode cX4_readTrail 2 = .ok (.iload_n 2, 1) := by decide +kernel
theorem dX4_readTrail_3 : decode cX4_readTrail 3 = .ok (.aload_n 1, 1) := by decide +kernel
theorem dX4_readTrail_4 : decode cX4_readTrail 4 = .ok (.getfield 65, 3) := by decide +kernel
theorem dX4_readTrail_7 : decode cX4_readTrail 7 = .ok (.if_icmp .ge 21, 3) := by decide +kernel
theorem dX4_readTrail_10 : decode cX4_readTrail 10 = .ok (.aload_n 0, 1) := by decide +kernel
theorem dX4_readTrail_11 : decode cX4_readTrail 11 = .ok (.getfield 9, 3) := by decide +kernel
theorem dX4_readTrail_14 : decode cX4_readTrail 14 = .ok (.aload_n 1, 1) := by decide +kernel
theorem dX4_readTrail_15 : decode cX4_readTrail 15 = .ok (.getfield 70, 3) := by decide +kernel
theorem dX4_readTrail_18 : decode cX4_readTrail 18 = .ok (.iload_n 2, 1) := by decide +kernel
theorem dX4_readTrail_19 : decode cX4_readTrail 19 = .ok (.iaload, 1) := by decide +kernel
theorem dX4_readTrail_20 : decode cX4_readTrail 20 = .ok (.iconst 1, 1) := by decide +kernel
theorem dX4_readTrail_21 : decode cX4_readTrail 21 = .ok (.iastore, 1) := by decide +kernel
theorem dX4_readTrail_22 : decode cX4_readTrail 22 = .ok (.iinc 2 1, 3) := by decide +kernel
theorem dX4_readTrail_25 : decode cX4_readTrail 25 = .ok (.goto (-23), 3) := by decide +kernel
theorem dX4_readTrail_28 : decode cX4_readTrail 28 = .ok (.return_, 1) := by decide +kernel
theorem dX4_hollowCount_0 : decode cX4_hollowCount 0 = .ok (.iconst 0, 1) := by decide +kernel
theorem dX4_hollowCount_1 : decode cX4_hollowCount 1 = .ok (.istore_n 1, 1) := by decide +kernel
theorem dX4_hollowCount_2 : decode cX4_hollowCount 2 = .ok (.iconst 0, 1) := by decide +kernel
theorem dX4_hollowCount_3 : decode cX4_hollowCount 3 = .ok (.istore_n 2, 1) := by decide +kernel
theorem dX4_hollowCount_4 : decode cX4_hollowCount 4 = .ok (.iload_n 2, 1) := by decide +kernel
theorem dX4_hollowCount_5 : decode cX4_hollowCount 5 = .ok (.bipush 64, 2) := by decide +kernel
theorem dX4_hollowCount_7 : decode cX4_hollowCount 7 = .ok (.if_icmp .ge 18, 3) := by decide +kernel
theorem dX4_hollowCount_10 : decode cX4_hollowCount 10 = .ok (.iload_n 1, 1) := by decide +kernel
theorem dX4_hollowCount_11 : decode cX4_hollowCount 11 = .ok (.aload_n 0, 1) := by decide +kernel
theorem dX4_hollowCount_12 : decode cX4_hollowCount 12 = .ok (.getfield 9, 3) := by decide +kernel
theorem dX4_hollowCount_15 : decode cX4_hollowCount 15 = .ok (.iload_n 2, 1) := by decide +kernel
theorem dX4_hollowCount_16 : decode cX4_hollowCount 16 = .ok (.iaload, 1) := by decide +kernel
theorem dX4_hollowCount_17 : decode cX4_hollowCount 17 = .ok (.iadd, 1) := by decide +kernel
theorem dX4_hollowCount_18 : decode cX4_hollowCount 18 = .ok (.istore_n 1, 1) := by decide +kernel
theorem dX4_hollowCount_19 : decode cX4_hollowCount 19 = .ok (.iinc 2 1, 3) := by decide +kernel
theorem dX4_hollowCount_22 : decode cX4_hollowCount 22 = .ok (.goto (-18), 3) := by decide +kernel
theorem dX4_hollowCount_25 : decode cX4_hollowCount 25 = .ok (.iload_n 1, 1) := by decide +kernel
theorem dX4_hollowCount_26 : decode cX4_hollowCount 26 = .ok (.ireturn, 1) := by decide +kernel
theorem lg_wsX4_countBeside_0 : GoodIn wsX4_countBeside ([.static yX6_neighbour, .initialized RX6, .code yX6_neighbour cX6_neighbour 2 (some .int), .fieldLink RX6 343 "MolesLawn" "ROW_BESIDE" "[I", .fieldLink RX6 346 "MolesLawn" "COLUMN_BESIDE" "[I", .methodLink RX6 340 yX6_tuftAt, .static yX6_tuftAt, .code yX6_tuftAt cX6_tuftAt 2 (some .int)] : List Cond) := goodIn_sub (fun _ h => (List.mem_cons_of_mem _ h)) (by decide +kernel)
set_option maxRecDepth 20000 in
theorem ggX4_countBeside_X6_neighbour : GoodIn wsX4_countBeside wsX6_neighbour := (gi_cons (lg_wsX4_countBeside_0 _ (List.mem_of_getElem? (i := 2) rfl)) (gi_cons (lg_wsX4_countBeside_0 _ (List.mem_of_getElem? (i := 3) rfl)) (gi_cons (lg_wsX4_countBeside_0 _ (List.mem_of_getElem? (i := 4) rfl)) (gi_cons (lg_wsX4_countBeside_0 _ (List.mem_of_getElem? (i := 5) rfl)) (gi_cons (lg_wsX4_countBeside_0 _ (List.mem_of_getElem? (i := 6) rfl)) (gi_cons (lg_wsX4_countBeside_0 _ (List.mem_of_getElem? (i := 1) rfl)) (gi_cons (lg_wsX4_countBeside_0 _ (List.mem_of_getElem? (i := 7) rfl)) gi_nil)))))))
set_option maxRecDepth 20000 in
theorem gX4_countBeside_X6_neighbour_n73 : GoodIn wsX4_countBeside (wsX6_neighbour) := ggX4_countBeside_X6_neighbour
theorem dX4_countBeside_0 : decode cX4_countBeside 0 = .ok (.iconst 0, 1) := by decide +kernel
theorem dX4_countBeside_1 : decode cX4_countBeside 1 = .ok (.istore 4, 2) := by decide +kernel
theorem dX4_countBeside_3 : decode cX4_countBeside 3 = .ok (.iconst 0, 1) := by decide +kernel
theorem dX4_countBeside_4 : decode cX4_countBeside 4 = .ok (.istore 5, 2) := by decide +kernel
theorem dX4_countBeside_6 : decode cX4_countBeside 6 = .ok (.iload 5, 2) := by decide +kernel
theorem dX4_countBeside_8 : decode cX4_countBeside 8 = .ok (.bipush 8, 2) := by decide +kernel
theorem dX4_countBeside_10 : decode cX4_countBeside 10 = .ok (.if_icmp .ge 34, 3) := by decide +kernel
theorem dX4_countBeside_13 : decode cX4_countBeside 13 = .ok (.iload_n 2, 1) := by decide +kernel
theorem dX4_countBeside_14 : decode cX4_countBeside 14 = .ok (.iload 5, 2) := by decide +kernel
theorem dX4_countBeside_16 : decode cX4_countBeside 16 = .ok (.invokestatic 73, 3) := by decide +kernel
theorem dX4_countBeside_19 : decode cX4_countBeside 19 = .ok (.istore 6, 2) := by decide +kernel
theorem dX4_countBeside_21 : decode cX4_countBeside 21 = .ok (.iload 6, 2) := by decide +kernel
theorem dX4_countBeside_23 : decode cX4_countBeside 23 = .ok (.iconst (-1), 1) := by decide +kernel
theorem dX4_countBeside_24 : decode cX4_countBeside 24 = .ok (.if_icmp .eq 14, 3) := by decide +kernel
theorem dX4_countBeside_27 : decode cX4_countBeside 27 = .ok (.aload_n 1, 1) := by decide +kernel
theorem dX4_countBeside_28 : decode cX4_countBeside 28 = .ok (.iload 6, 2) := by decide +kernel
theorem dX4_countBeside_30 : decode cX4_countBeside 30 = .ok (.iaload, 1) := by decide +kernel
theorem dX4_countBeside_31 : decode cX4_countBeside 31 = .ok (.iload_n 3, 1) := by decide +kernel
theorem dX4_countBeside_32 : decode cX4_countBeside 32 = .ok (.if_icmp .ne 6, 3) := by decide +kernel
theorem dX4_countBeside_35 : decode cX4_countBeside 35 = .ok (.iinc 4 1, 3) := by decide +kernel
theorem dX4_countBeside_38 : decode cX4_countBeside 38 = .ok (.iinc 5 1, 3) := by decide +kernel
theorem dX4_countBeside_41 : decode cX4_countBeside 41 = .ok (.goto (-35), 3) := by decide +kernel
theorem dX4_countBeside_44 : decode cX4_countBeside 44 = .ok (.iload 4, 2) := by decide +kernel
theorem dX4_countBeside_46 : decode cX4_countBeside 46 = .ok (.ireturn, 1) := by decide +kernel
theorem lg_wsX4_findSure_0 : GoodIn wsX4_findSure ([.fieldLink RX4 18 "MolesLawn$Survey" "sure" "[I", .fieldLink RX4 77 "MolesLawn$Lawn" "opened" "[Z", .fieldLink RX4 9 "MolesLawn$Survey" "hollow" "[I", .methodLink RX4 81 yX4_concludeAt, .instanceMethod yX4_concludeAt, .selects RX4 yX4_concludeAt yX4_concludeAt, .initialized RX4, .code yX4_concludeAt cX4_concludeAt 5 (some .boolean), .methodLink RX4 85 yX4_countBeside, .instanceMethod yX4_countBeside, .selects RX4 yX4_countBeside yX4_countBeside, .code yX4_countBeside cX4_countBeside 7 (some .int), .static yX6_neighbour, .initialized RX6, .code yX6_neighbour cX6_neighbour 2 (some .int), .fieldLink RX6 343 "MolesLawn" "ROW_BESIDE" "[I", .fieldLink RX6 346 "MolesLawn" "COLUMN_BESIDE" "[I", .methodLink RX6 340 yX6_tuftAt, .static yX6_tuftAt, .code yX6_tuftAt cX6_tuftAt 2 (some .int), .methodLink RX4 89 yX4_markUnknownBeside, .instanceMethod yX4_markUnknownBeside, .selects RX4 yX4_markUnknownBeside yX4_markUnknownBeside, .code yX4_markUnknownBeside cX4_markUnknownBeside 5 none] : List Cond) := goodIn_sub (fun _ h => (List.mem_cons_of_mem _ (List.mem_append_left _ (List.mem_append_left _ h)))) (by decide +kernel)
theorem ls_wsX4_findSure_0 : GoodIn wsX4_findSure wsX40 := goodIn_sub (fun _ h => (List.mem_cons_of_mem _ (List.mem_append_left _ (List.mem_append_right _ h)))) (by decide +kernel)
theorem ls_wsX4_findSure_1 : GoodIn wsX4_findSure wsX00 := goodIn_sub (fun _ h => (List.mem_cons_of_mem _ (List.mem_append_right _ h))) (by decide +kernel)
set_option maxRecDepth 20000 in
theorem ggX4_findSure_X4_concludeAt : GoodIn wsX4_findSure wsX4_concludeAt := (gi_cons (lg_wsX4_findSure_0 _ (List.mem_of_getElem? (i := 7) rfl)) (goodIn_app (gi_cons (lg_wsX4_findSure_0 _ (List.mem_of_getElem? (i := 0) rfl)) (gi_cons (lg_wsX4_findSure_0 _ (List.mem_of_getElem? (i := 2) rfl)) (gi_cons (lg_wsX4_findSure_0 _ (List.mem_of_getElem? (i := 8) rfl)) (gi_cons (lg_wsX4_findSure_0 _ (List.mem_of_getElem? (i := 9) rfl)) (gi_cons (lg_wsX4_findSure_0 _ (List.mem_of_getElem? (i := 10) rfl)) (gi_cons (lg_wsX4_findSure_0 _ (List.mem_of_getElem? (i := 6) rfl)) (gi_cons (lg_wsX4_findSure_0 _ (List.mem_of_getElem? (i := 11) rfl)) (gi_cons (lg_wsX4_findSure_0 _ (List.mem_of_getElem? (i := 12) rfl)) (gi_cons (lg_wsX4_findSure_0 _ (List.mem_of_getElem? (i := 13) rfl)) (gi_cons (lg_wsX4_findSure_0 _ (List.mem_of_getElem? (i := 14) rfl)) (gi_cons (lg_wsX4_findSure_0 _ (List.mem_of_getElem? (i := 15) rfl)) (gi_cons (lg_wsX4_findSure_0 _ (List.mem_of_getElem? (i := 16) rfl)) (gi_cons (lg_wsX4_findSure_0 _ (List.mem_of_getElem? (i := 17) rfl)) (gi_cons (lg_wsX4_findSure_0 _ (List.mem_of_getElem? (i := 18) rfl)) (gi_cons (lg_wsX4_findSure_0 _ (List.mem_of_getElem? (i := 19) rfl)) (gi_cons (lg_wsX4_findSure_0 _ (List.mem_of_getElem? (i := 20) rfl)) (gi_cons (lg_wsX4_findSure_0 _ (List.mem_of_getElem? (i := 21) rfl)) (gi_cons (lg_wsX4_findSure_0 _ (List.mem_of_getElem? (i := 22) rfl)) (gi_cons (lg_wsX4_findSure_0 _ (List.mem_of_getElem? (i := 23) rfl)) gi_nil))))))))))))))))))) ls_wsX4_findSure_0))
set_option maxRecDepth 20000 in
theorem gX4_findSure_X4_concludeAt : GoodIn wsX4_findSure (wsV RX4 81 RX4 yX4_concludeAt wsX4_concludeAt) := goodIn_app (gi_cons (lg_wsX4_findSure_0 _ (List.mem_of_getElem? (i := 3) rfl)) (gi_cons (lg_wsX4_findSure_0 _ (List.mem_of_getElem? (i := 4) rfl)) (gi_cons (lg_wsX4_findSure_0 _ (List.mem_of_getElem? (i := 5) rfl)) (gi_cons (lg_wsX4_findSure_0 _ (List.mem_of_getElem? (i := 6) rfl)) gi_nil)))) ggX4_findSure_X4_concludeAt
theorem dX4_findSure_0 : decode cX4_findSure 0 = .ok (.iconst 0, 1) := by decide +kernel
theorem dX4_findSure_1 : decode cX4_findSure 1 = .ok (.istore_n 2, 1) := by decide +kernel
theorem dX4_findSure_2 : decode cX4_findSure 2 = .ok (.iload_n 2, 1) := by decide +kernel
theorem dX4_findSure_3 : decode cX4_findSure 3 = .ok (.bipush 64, 2) := by decide +kernel
theorem dX4_findSure_5 : decode cX4_findSure 5 = .ok (.if_icmp .ge 34, 3) := by decide +kernel
theorem dX4_findSure_8 : decode cX4_findSure 8 = .ok (.aload_n 0, 1) := by decide +kernel
theorem dX4_findSure_9 : decode cX4_findSure 9 = .ok (.getfield 18, 3) := by decide +kernel
theorem dX4_findSure_12 : decode cX4_findSure 12 = .ok (.iload_n 2, 1) := by decide +kernel
theorem dX4_findSure_13 : decode cX4_findSure 13 = .ok (.aload_n 1, 1) := by decide +kernel
theorem dX4_findSure_14 : decode cX4_findSure 14 = .ok (.getfield 77, 3) := by decide +kernel
theorem dX4_findSure_17 : decode cX4_findSure 17 = .ok (.iload_n 2, 1) := by decide +kernel
theorem dX4_findSure_18 : decode cX4_findSure 18 = .ok (.baload, 1) := by decide +kernel
theorem dX4_findSure_19 : decode cX4_findSure 19 = .ok (.ifCond .eq 12, 3) := by decide +kernel
theorem dX4_findSure_22 : decode cX4_findSure 22 = .ok (.aload_n 0, 1) := by decide +kernel
theorem dX4_findSure_23 : decode cX4_findSure 23 = .ok (.getfield 9, 3) := by decide +kernel
theorem dX4_findSure_26 : decode cX4_findSure 26 = .ok (.iload_n 2, 1) := by decide +kernel
theorem dX4_findSure_27 : decode cX4_findSure 27 = .ok (.iaload, 1) := by decide +kernel
theorem dX4_findSure_28 : decode cX4_findSure 28 = .ok (.goto 4, 3) := by decide +kernel
theorem dX4_findSure_31 : decode cX4_findSure 31 = .ok (.iconst (-1), 1) := by decide +kernel
theorem dX4_findSure_32 : decode cX4_findSure 32 = .ok (.iastore, 1) := by decide +kernel
theorem dX4_findSure_33 : decode cX4_findSure 33 = .ok (.iinc 2 1, 3) := by decide +kernel
theorem dX4_findSure_36 : decode cX4_findSure 36 = .ok (.goto (-34), 3) := by decide +kernel
theorem dX4_findSure_39 : decode cX4_findSure 39 = .ok (.iconst 1, 1) := by decide +kernel
theorem dX4_findSure_40 : decode cX4_findSure 40 = .ok (.istore_n 2, 1) := by decide +kernel
theorem dX4_findSure_41 : decode cX4_findSure 41 = .ok (.iconst 0, 1) := by decide +kernel
theorem dX4_findSure_42 : decode cX4_findSure 42 = .ok (.istore_n 3, 1) := by decide +kernel
theorem dX4_findSure_43 : decode cX4_findSure 43 = .ok (.iload_n 2, 1) := by decide +kernel
theorem dX4_findSure_44 : decode cX4_findSure 44 = .ok (.ifCond .eq 54, 3) := by decide +kernel
theorem dX4_findSure_47 : decode cX4_findSure 47 = .ok (.iload_n 3, 1) := by decide +kernel
theorem dX4_findSure_48 : decode cX4_findSure 48 = .ok (.bipush 64, 2) := by decide +kernel
theorem dX4_findSure_50 : decode cX4_findSure 50 = .ok (.if_icmp .gt 48, 3) := by decide +kernel
theorem dX4_findSure_53 : decode cX4_findSure 53 = .ok (.iconst 0, 1) := by decide +kernel
theorem dX4_findSure_54 : decode cX4_findSure 54 = .ok (.istore_n 2, 1) := by decide +kernel
theorem dX4_findSure_55 : decode cX4_findSure 55 = .ok (.iconst 0, 1) := by decide +kernel
theorem dX4_findSure_56 : decode cX4_findSure 56 = .ok (.istore 4, 2) := by decide +kernel
theorem dX4_findSure_58 : decode cX4_findSure 58 = .ok (.iload 4, 2) := by decide +kernel
theorem dX4_findSure_60 : decode cX4_findSure 60 = .ok (.bipush 64, 2) := by decide +kernel
theorem dX4_findSure_62 : decode cX4_findSure 62 = .ok (.if_icmp .ge 30, 3) := by decide +kernel
theorem dX4_findSure_65 : decode cX4_findSure 65 = .ok (.aload_n 1, 1) := by decide +kernel
theorem dX4_findSure_66 : decode cX4_findSure 66 = .ok (.getfield 77, 3) := by decide +kernel
theorem dX4_findSure_69 : decode cX4_findSure 69 = .ok (.iload 4, 2) := by decide +kernel
theorem dX4_findSure_71 : decode cX4_findSure 71 = .ok (.baload, 1) := by decide +kernel
theorem dX4_findSure_72 : decode cX4_findSure 72 = .ok (.ifCond .eq 14, 3) := by decide +kernel
theorem dX4_findSure_75 : decode cX4_findSure 75 = .ok (.aload_n 0, 1) := by decide +kernel
theorem dX4_findSure_76 : decode cX4_findSure 76 = .ok (.iload 4, 2) := by decide +kernel
theorem dX4_findSure_78 : decode cX4_findSure 78 = .ok (.invokevirtual 81, 3) := by decide +kernel
theorem dX4_findSure_81 : decode cX4_findSure 81 = .ok (.ifCond .eq 5, 3) := by decide +kernel
theorem dX4_findSure_84 : decode cX4_findSure 84 = .ok (.iconst 1, 1) := by decide +kernel
theorem dX4_findSure_85 : decode cX4_findSure 85 = .ok (.istore_n 2, 1) := by decide +kernel
theorem dX4_findSure_86 : decode cX4_findSure 86 = .ok (.iinc 4 1, 3) := by decide +kernel
theorem dX4_findSure_89 : decode cX4_findSure 89 = .ok (.goto (-31), 3) := by decide +kernel
theorem dX4_findSure_92 : decode cX4_findSure 92 = .ok (.iinc 3 1, 3) := by decide +kernel
theorem dX4_findSure_95 : decode cX4_findSure 95 = .ok (.goto (-52), 3) := by decide +kernel
theorem dX4_findSure_98 : decode cX4_findSure 98 = .ok (.return_, 1) := by decide +kernel
theorem lg_wsX4_concludeAt_0 : GoodIn wsX4_concludeAt ([.fieldLink RX4 18 "MolesLawn$Survey" "sure" "[I", .fieldLink RX4 9 "MolesLawn$Survey" "hollow" "[I", .methodLink RX4 85 yX4_countBeside, .instanceMethod yX4_countBeside, .selects RX4 yX4_countBeside yX4_countBeside, .initialized RX4, .code yX4_countBeside cX4_countBeside 7 (some .int), .static yX6_neighbour, .initialized RX6, .code yX6_neighbour cX6_neighbour 2 (some .int), .fieldLink RX6 343 "MolesLawn" "ROW_BESIDE" "[I", .fieldLink RX6 346 "MolesLawn" "COLUMN_BESIDE" "[I", .methodLink RX6 340 yX6_tuftAt, .static yX6_tuftAt, .code yX6_tuftAt cX6_tuftAt 2 (some .int), .methodLink RX4 89 yX4_markUnknownBeside, .instanceMethod yX4_markUnknownBeside, .selects RX4 yX4_markUnknownBeside yX4_markUnknownBeside, .code yX4_markUnknownBeside cX4_markUnknownBeside 5 none] : List Cond) := goodIn_sub (fun _ h => (List.mem_cons_of_mem _ (List.mem_append_left _ h))) (by decide +kernel)
theorem ls_wsX4_concludeAt_0 : GoodIn wsX4_concludeAt wsX40 := goodIn_sub (fun _ h => (List.mem_cons_of_mem _ (List.mem_append_right _ h))) (by decide +kernel)
set_option maxRecDepth 20000 in
theorem ggX4_concludeAt_X4_countBeside : GoodIn wsX4_concludeAt wsX4_countBeside := (gi_cons (lg_wsX4_concludeAt_0 _ (List.mem_of_getElem? (i := 6) rfl)) (gi_cons (lg_wsX4_concludeAt_0 _ (List.mem_of_getElem? (i := 7) rfl)) (gi_cons (lg_wsX4_concludeAt_0 _ (List.mem_of_getElem? (i := 8) rfl)) (gi_cons (lg_wsX4_concludeAt_0 _ (List.mem_of_getElem? (i := 9) rfl)) (gi_cons (lg_wsX4_concludeAt_0 _ (List.mem_of_getElem? (i := 10) rfl)) (gi_cons (lg_wsX4_concludeAt_0 _ (List.mem_of_getElem? (i := 11) rfl)) (gi_cons (lg_wsX4_concludeAt_0 _ (List.mem_of_getElem? (i := 12) rfl)) (gi_cons (lg_wsX4_concludeAt_0 _ (List.mem_of_getElem? (i := 13) rfl)) (gi_cons (lg_wsX4_concludeAt_0 _ (List.mem_of_getElem? (i := 14) rfl)) gi_nil)))))))))
set_option maxRecDepth 20000 in
theorem gX4_concludeAt_X4_countBeside : GoodIn wsX4_concludeAt (wsV RX4 85 RX4 yX4_countBeside wsX4_countBeside) := goodIn_app (gi_cons (lg_wsX4_concludeAt_0 _ (List.mem_of_getElem? (i := 2) rfl)) (gi_cons (lg_wsX4_concludeAt_0 _ (List.mem_of_getElem? (i := 3) rfl)) (gi_cons (lg_wsX4_concludeAt_0 _ (List.mem_of_getElem? (i := 4) rfl)) (gi_cons (lg_wsX4_concludeAt_0 _ (List.mem_of_getElem? (i := 5) rfl)) gi_nil)))) ggX4_concludeAt_X4_countBeside
set_option maxRecDepth 20000 in
theorem ggX4_concludeAt_X4_markUnknownBeside : GoodIn wsX4_concludeAt wsX4_markUnknownBeside := (gi_cons (lg_wsX4_concludeAt_0 _ (List.mem_of_getElem? (i := 18) rfl)) (goodIn_app (gi_cons (lg_wsX4_concludeAt_0 _ (List.mem_of_getElem? (i := 0) rfl)) (gi_cons (lg_wsX4_concludeAt_0 _ (List.mem_of_getElem? (i := 7) rfl)) (gi_cons (lg_wsX4_concludeAt_0 _ (List.mem_of_getElem? (i := 8) rfl)) (gi_cons (lg_wsX4_concludeAt_0 _ (List.mem_of_getElem? (i := 9) rfl)) (gi_cons (lg_wsX4_concludeAt_0 _ (List.mem_of_getElem? (i := 10) rfl)) (gi_cons (lg_wsX4_concludeAt_0 _ (List.mem_of_getElem? (i := 11) rfl)) (gi_cons (lg_wsX4_concludeAt_0 _ (List.mem_of_getElem? (i := 12) rfl)) (gi_cons (lg_wsX4_concludeAt_0 _ (List.mem_of_getElem? (i := 13) rfl)) (gi_cons (lg_wsX4_concludeAt_0 _ (List.mem_of_getElem? (i := 14) rfl)) gi_nil))))))))) ls_wsX4_concludeAt_0))
set_option maxRecDepth 20000 in
theorem gX4_concludeAt_X4_markUnknownBeside : GoodIn wsX4_concludeAt (wsV RX4 89 RX4 yX4_markUnknownBeside wsX4_markUnknownBeside) := goodIn_app (gi_cons (lg_wsX4_concludeAt_0 _ (List.mem_of_getElem? (i := 15) rfl)) (gi_cons (lg_wsX4_concludeAt_0 _ (List.mem_of_getElem? (i := 16) rfl)) (gi_cons (lg_wsX4_concludeAt_0 _ (List.mem_of_getElem? (i := 17) rfl)) (gi_cons (lg_wsX4_concludeAt_0 _ (List.mem_of_getElem? (i := 5) rfl)) gi_nil)))) ggX4_concludeAt_X4_markUnknownBeside
theorem dX4_concludeAt_0 : decode cX4_concludeAt 0 = .ok (.aload_n 0, 1) := by decide +kernel
theorem dX4_concludeAt_1 : decode cX4_concludeAt 1 = .ok (.aload_n 0, 1) := by decide +kernel
theorem dX4_concludeAt_2 : decode cX4_concludeAt 2 = .ok (.getfield 18, 3) := by decide +kernel
theorem dX4_concludeAt_5 : decode cX4_concludeAt 5 = .ok (.iload_n 1, 1) := by decide +kernel
theorem dX4_concludeAt_6 : decode cX4_concludeAt 6 = .ok (.iconst (-1), 1) := by decide +kernel
theorem dX4_concludeAt_7 : decode cX4_concludeAt 7 = .ok (.invokevirtual 85, 3) := by decide +kernel
theorem dX4_concludeAt_10 : decode cX4_concludeAt 10 = .ok (.istore_n 2, 1) := by decide +kernel
theorem dX4_concludeAt_11 : decode cX4_concludeAt 11 = .ok (.iload_n 2, 1) := by decide +kernel
theorem dX4_concludeAt_12 : decode cX4_concludeAt 12 = .ok (.ifCond .ne 5, 3) := by decide +kernel
theorem dX4_concludeAt_15 : decode cX4_concludeAt 15 = .ok (.iconst 0, 1) := by decide +kernel
theorem dX4_concludeAt_16 : decode cX4_concludeAt 16 = .ok (.ireturn, 1) := by decide +kernel
theorem dX4_concludeAt_17 : decode cX4_concludeAt 17 = .ok (.aload_n 0, 1) := by decide +kernel
theorem dX4_concludeAt_18 : decode cX4_concludeAt 18 = .ok (.aload_n 0, 1) := by decide +kernel
theorem dX4_concludeAt_19 : decode cX4_concludeAt 19 = .ok (.getfield 9, 3) := by decide +kernel
theorem dX4_concludeAt_22 : decode cX4_concludeAt 22 = .ok (.iload_n 1, 1) := by decide +kernel
theorem dX4_concludeAt_23 : decode cX4_concludeAt 23 = .ok (.iconst 1, 1) := by decide +kernel
theorem dX4_concludeAt_24 : decode cX4_concludeAt 24 = .ok (.invokevirtual 85, 3) := by decide +kernel
theorem dX4_concludeAt_27 : decode cX4_concludeAt 27 = .ok (.istore_n 3, 1) := by decide +kernel
theorem dX4_concludeAt_28 : decode cX4_concludeAt 28 = .ok (.aload_n 0, 1) := by decide +kernel
theorem dX4_concludeAt_29 : decode cX4_concludeAt 29 = .ok (.aload_n 0, 1) := by decide +kernel
theorem dX4_concludeAt_30 : decode cX4_concludeAt 30 = .ok (.getfield 18, 3) := by decide +kernel
theorem dX4_concludeAt_33 : decode cX4_concludeAt 33 = .ok (.iload_n 1, 1) := by decide +kernel
theorem dX4_concludeAt_34 : decode cX4_concludeAt 34 = .ok (.iconst 1, 1) := by decide +kernel
theorem dX4_concludeAt_35 : decode cX4_concludeAt 35 = .ok (.invokevirtual 85, 3) := by decide +kernel
theorem dX4_concludeAt_38 : decode cX4_concludeAt 38 = .ok (.istore 4, 2) := by decide +kernel
theorem dX4_concludeAt_40 : decode cX4_concludeAt 40 = .ok (.iload 4, 2) := by decide +kernel
theorem dX4_concludeAt_42 : decode cX4_concludeAt 42 = .ok (.iload_n 3, 1) := by decide +kernel
theorem dX4_concludeAt_43 : decode cX4_concludeAt 43 = .ok (.if_icmp .ne 11, 3) := by decide +kernel
theorem dX4_concludeAt_46 : decode cX4_concludeAt 46 = .ok (.aload_n 0, 1) := by decide +kernel
theorem dX4_concludeAt_47 : decode cX4_concludeAt 47 = .ok (.iload_n 1, 1) := by decide +kernel
theorem dX4_concludeAt_48 : decode cX4_concludeAt 48 = .ok (.iconst 0, 1) := by decide +kernel
theorem dX4_concludeAt_49 : decode cX4_concludeAt 49 = .ok (.invokevirtual 89, 3) := by decide +kernel
theorem dX4_concludeAt_52 : decode cX4_concludeAt 52 = .ok (.iconst 1, 1) := by decide +kernel
theorem dX4_concludeAt_53 : decode cX4_concludeAt 53 = .ok (.ireturn, 1) := by decide +kernel
theorem dX4_concludeAt_54 : decode cX4_concludeAt 54 = .ok (.iload 4, 2) := by decide +kernel
theorem dX4_concludeAt_56 : decode cX4_concludeAt 56 = .ok (.iload_n 2, 1) := by decide +kernel
theorem dX4_concludeAt_57 : decode cX4_concludeAt 57 = .ok (.iadd, 1) := by decide +kernel
theorem dX4_concludeAt_58 : decode cX4_concludeAt 58 = .ok (.iload_n 3, 1) := by decide +kernel
theorem dX4_concludeAt_59 : decode cX4_concludeAt 59 = .ok (.if_icmp .ne 11, 3) := by decide +kernel
theorem dX4_concludeAt_62 : decode cX4_concludeAt 62 = .ok (.aload_n 0, 1) := by decide +kernel
theorem dX4_concludeAt_63 : decode cX4_concludeAt 63 = .ok (.iload_n 1, 1) := by decide +kernel
theorem dX4_concludeAt_64 : decode cX4_concludeAt 64 = .ok (.iconst 1, 1) := by decide +kernel
theorem dX4_concludeAt_65 : decode cX4_concludeAt 65 = .ok (.invokevirtual 89, 3) := by decide +kernel
theorem dX4_concludeAt_68 : decode cX4_concludeAt 68 = .ok (.iconst 1, 1) := by decide +kernel
theorem dX4_concludeAt_69 : decode cX4_concludeAt 69 = .ok (.ireturn, 1) := by decide +kernel
theorem dX4_concludeAt_70 : decode cX4_concludeAt 70 = .ok (.iconst 0, 1) := by decide +kernel
theorem dX4_concludeAt_71 : decode cX4_concludeAt 71 = .ok (.ireturn, 1) := by decide +kernel
theorem lg_wsX4_markUnknownBeside_0 : GoodIn wsX4_markUnknownBeside ([.fieldLink RX4 18 "MolesLawn$Survey" "sure" "[I", .static yX6_neighbour, .initialized RX6, .code yX6_neighbour cX6_neighbour 2 (some .int), .fieldLink RX6 343 "MolesLawn" "ROW_BESIDE" "[I", .fieldLink RX6 346 "MolesLawn" "COLUMN_BESIDE" "[I", .methodLink RX6 340 yX6_tuftAt, .static yX6_tuftAt, .code yX6_tuftAt cX6_tuftAt 2 (some .int)] : List Cond) := goodIn_sub (fun _ h => (List.mem_cons_of_mem _ (List.mem_append_left _ h))) (by decide +kernel)
theorem ls_wsX4_markUnknownBeside_0 : GoodIn wsX4_markUnknownBeside wsX40 := goodIn_sub (fun _ h => (List.mem_cons_of_mem _ (List.mem_append_right _ h))) (by decide +kernel)
set_option maxRecDepth 20000 in
theorem ggX4_markUnknownBeside_X6_neighbour : GoodIn wsX4_markUnknownBeside wsX6_neighbour := (gi_cons (lg_wsX4_markUnknownBeside_0 _ (List.mem_of_getElem? (i := 3) rfl)) (gi_cons (lg_wsX4_markUnknownBeside_0 _ (List.mem_of_getElem? (i := 4) rfl)) (gi_cons (lg_wsX4_markUnknownBeside_0 _ (List.mem_of_getElem? (i := 5) rfl)) (gi_cons (lg_wsX4_markUnknownBeside_0 _ (List.mem_of_getElem? (i := 6) rfl)) (gi_cons (lg_wsX4_markUnknownBeside_0 _ (List.mem_of_getElem? (i := 7) rfl)) (gi_cons (lg_wsX4_markUnknownBeside_0 _ (List.mem_of_getElem? (i := 2) rfl)) (gi_cons (lg_wsX4_markUnknownBeside_0 _ (List.mem_of_getElem? (i := 8) rfl)) gi_nil)))))))
set_option maxRecDepth 20000 in
theorem gX4_markUnknownBeside_X6_neighbour_n73 : GoodIn wsX4_markUnknownBeside (wsX6_neighbour) := ggX4_markUnknownBeside_X6_neighbour
theorem dX4_markUnknownBeside_0 : decode cX4_markUnknownBeside 0 = .ok (.iconst 0, 1) := by decide +kernel
theorem dX4_markUnknownBeside_1 : decode cX4_markUnknownBeside 1 = .ok (.istore_n 3, 1) := by decide +kernel
theorem dX4_markUnknownBeside_2 : decode cX4_markUnknownBeside 2 = .ok (.iload_n 3, 1) := by decide +kernel
theorem dX4_markUnknownBeside_3 : decode cX4_markUnknownBeside 3 = .ok (.bipush 8, 2) := by decide +kernel
theorem dX4_markUnknownBeside_5 : decode cX4_markUnknownBeside 5 = .ok (.if_icmp .ge 41, 3) := by decide +kernel
theorem dX4_markUnknownBeside_8 : decode cX4_markUnknownBeside 8 = .ok (.iload_n 1, 1) := by decide +kernel
theorem dX4_markUnknownBeside_9 : decode cX4_markUnknownBeside 9 = .ok (.iload_n 3, 1) := by decide +kernel
theorem dX4_markUnknownBeside_10 : decode cX4_markUnknownBeside 10 = .ok (.invokestatic 73, 3) := by decide +kernel
theorem dX4_markUnknownBeside_13 : decode cX4_markUnknownBeside 13 = .ok (.istore 4, 2) := by decide +kernel
theorem dX4_markUnknownBeside_15 : decode cX4_markUnknownBeside 15 = .ok (.iload 4, 2) := by decide +kernel
theorem dX4_markUnknownBeside_17 : decode cX4_markUnknownBeside 17 = .ok (.iconst (-1), 1) := by decide +kernel
theorem dX4_markUnknownBeside_18 : decode cX4_markUnknownBeside 18 = .ok (.if_icmp .eq 22, 3) := by decide +kernel
theorem dX4_markUnknownBeside_21 : decode cX4_markUnknownBeside 21 = .ok (.aload_n 0, 1) := by decide +kernel
theorem dX4_markUnknownBeside_22 : decode cX4_markUnknownBeside 22 = .ok (.getfield 18, 3) := by decide +kernel
theorem dX4_markUnknownBeside_25 : decode cX4_markUnknownBeside 25 = .ok (.iload 4, 2) := by decide +kernel
theorem dX4_markUnknownBeside_27 : decode cX4_markUnknownBeside 27 = .ok (.iaload, 1) := by decide +kernel
theorem dX4_markUnknownBeside_28 : decode cX4_markUnknownBeside 28 = .ok (.iconst (-1), 1) := by decide +kernel
theorem dX4_markUnknownBeside_29 : decode cX4_markUnknownBeside 29 = .ok (.if_icmp .ne 11, 3) := by decide +kernel
theorem dX4_markUnknownBeside_32 : decode cX4_markUnknownBeside 32 = .ok (.aload_n 0, 1) := by decide +kernel
theorem dX4_markUnknownBeside_33 : decode cX4_markUnknownBeside 33 = .ok (.getfield 18, 3) := by decide +kernel
theorem dX4_markUnknownBeside_36 : decode cX4_markUnknownBeside 36 = .ok (.iload 4, 2) := by decide +kernel
theorem dX4_markUnknownBeside_38 : decode cX4_markUnknownBeside 38 = .ok (.iload_n 2, 1) := by decide +kernel
theorem dX4_markUnknownBeside_39 : decode cX4_markUnknownBeside 39 = .ok (.iastore, 1) := by decide +kernel
theorem dX4_markUnknownBeside_40 : decode cX4_markUnknownBeside 40 = .ok (.iinc 3 1, 3) := by decide +kernel
theorem dX4_markUnknownBeside_43 : decode cX4_markUnknownBeside 43 = .ok (.goto (-41), 3) := by decide +kernel
theorem dX4_markUnknownBeside_46 : decode cX4_markUnknownBeside 46 = .ok (.return_, 1) := by decide +kernel
theorem dX5_init_0 : decode cX5_init 0 = .ok (.aload_n 0, 1) := by decide +kernel
theorem dX5_init_1 : decode cX5_init 1 = .ok (.invokespecial 3, 3) := by decide +kernel
theorem dX5_init_4 : decode cX5_init 4 = .ok (.aload_n 0, 1) := by decide +kernel
theorem dX5_init_5 : decode cX5_init 5 = .ok (.bipush 60, 2) := by decide +kernel
theorem dX5_init_7 : decode cX5_init 7 = .ok (.newarray .int, 2) := by decide +kernel
theorem dX5_init_9 : decode cX5_init 9 = .ok (.putfield 9, 3) := by decide +kernel
theorem dX5_init_12 : decode cX5_init 12 = .ok (.return_, 1) := by decide +kernel
theorem lg_wsX6_init_0 : GoodIn wsX6_init wsX6_init_r1 := goodIn_sub (fun _ h => (List.mem_cons_of_mem _ (List.mem_append_left _ (List.mem_append_left _ (List.mem_append_left _ (List.mem_append_left _ (List.mem_append_left _ (List.mem_append_left _ (List.mem_append_left _ (List.mem_append_left _ h)))))))))) (by decide +kernel)
theorem lg_wsX6_init_1 : GoodIn wsX6_init wsX6_init_r2 := goodIn_sub (fun _ h => (List.mem_cons_of_mem _ (List.mem_append_left _ (List.mem_append_left _ (List.mem_append_left _ (List.mem_append_left _ (List.mem_append_left _ (List.mem_append_left _ (List.mem_append_left _ (List.mem_append_right _ (List.mem_append_left _ h))))))))))) (by decide +kernel)
theorem lg_wsX6_init_2 : GoodIn wsX6_init wsX6_init_r3 := goodIn_sub (fun _ h => (List.mem_cons_of_mem _ (List.mem_append_left _ (List.mem_append_left _ (List.mem_append_left _ (List.mem_append_left _ (List.mem_append_left _ (List.mem_append_left _ (List.mem_append_left _ (List.mem_append_right _ (List.mem_append_right _ h))))))))))) (by decide +kernel)
theorem ls_wsX6_init_0 : GoodIn wsX6_init wsX30 := goodIn_sub (fun _ h => (List.mem_cons_of_mem _ (List.mem_append_left _ (List.mem_append_left _ (List.mem_append_left _ (List.mem_append_left _ (List.mem_append_left _ (List.mem_append_left _ (List.mem_append_right _ h))))))))) (by decide +kernel)
theorem ls_wsX6_init_1 : GoodIn wsX6_init wsX00 := goodIn_sub (fun _ h => (List.mem_cons_of_mem _ (List.mem_append_left _ (List.mem_append_left _ (List.mem_append_left _ (List.mem_append_left _ (List.mem_append_left _ (List.mem_append_right _ h)))))))) (by decide +kernel)
theorem ls_wsX6_init_2 : GoodIn wsX6_init wsX60 := goodIn_sub (fun _ h => (List.mem_cons_of_mem _ (List.mem_append_left _ (List.mem_append_left _ (List.mem_append_left _ (List.mem_append_left _ (List.mem_append_right _ h))))))) (by decide +kernel)
theorem ls_wsX6_init_3 : GoodIn wsX6_init wsX50 := goodIn_sub (fun _ h => (List.mem_cons_of_mem _ (List.mem_append_left _ (List.mem_append_left _ (List.mem_append_left _ (List.mem_append_right _ h)))))) (by decide +kernel)
theorem ls_wsX6_init_4 : GoodIn wsX6_init wsX40 := goodIn_sub (fun _ h => (List.mem_cons_of_mem _ (List.mem_append_left _ (List.mem_append_left _ (List.mem_append_right _ h))))) (by decide +kernel)
theorem ls_wsX6_init_5 : GoodIn wsX6_init wsX20 := goodIn_sub (fun _ h => (List.mem_cons_of_mem _ (List.mem_append_left _ (List.mem_append_right _ h)))) (by decide +kernel)
theorem ls_wsX6_init_6 : GoodIn wsX6_init wsX10 := goodIn_sub (fun _ h => (List.mem_cons_of_mem _ (List.mem_append_right _ h))) (by decide +kernel)
set_option maxRecDepth 20000 in
theorem ggX6_init_X3_init : GoodIn wsX6_init wsX3_init := (gi_cons (lg_wsX6_init_1 _ (List.mem_of_getElem? (i := 2) rfl)) (goodIn_app (gi_cons (lg_wsX6_init_1 _ (List.mem_of_getElem? (i := 3) rfl)) (gi_cons (lg_wsX6_init_0 _ (List.mem_of_getElem? (i := 1) rfl)) (gi_cons (lg_wsX6_init_0 _ (List.mem_of_getElem? (i := 2) rfl)) (gi_cons (lg_wsX6_init_1 _ (List.mem_of_getElem? (i := 4) rfl)) (gi_cons (lg_wsX6_init_1 _ (List.mem_of_getElem? (i := 5) rfl)) (gi_cons (lg_wsX6_init_1 _ (List.mem_of_getElem? (i := 6) rfl)) gi_nil)))))) ls_wsX6_init_0))
set_option maxRecDepth 20000 in
theorem gX6_init_X3_init_n9 : GoodIn wsX6_init (wsX3_init) := ggX6_init_X3_init
set_option maxRecDepth 20000 in
theorem ggX6_init_X0_init : GoodIn wsX6_init wsX0_init := (gi_cons (lg_wsX6_init_1 _ (List.mem_of_getElem? (i := 9) rfl)) (goodIn_app (goodIn_app (goodIn_app (goodIn_app (gi_cons (lg_wsX6_init_1 _ (List.mem_of_getElem? (i := 10) rfl)) (gi_cons (lg_wsX6_init_0 _ (List.mem_of_getElem? (i := 1) rfl)) (gi_cons (lg_wsX6_init_0 _ (List.mem_of_getElem? (i := 2) rfl)) (gi_cons (lg_wsX6_init_1 _ (List.mem_of_getElem? (i := 11) rfl)) (gi_cons (lg_wsX6_init_1 _ (List.mem_of_getElem? (i := 12) rfl)) (gi_cons (lg_wsX6_init_1 _ (List.mem_of_getElem? (i := 13) rfl)) (gi_cons (lg_wsX6_init_1 _ (List.mem_of_getElem? (i := 4) rfl)) (gi_cons (lg_wsX6_init_1 _ (List.mem_of_getElem? (i := 14) rfl)) (gi_cons (lg_wsX6_init_1 _ (List.mem_of_getElem? (i := 15) rfl)) (gi_cons (lg_wsX6_init_1 _ (List.mem_of_getElem? (i := 16) rfl)) (gi_cons (lg_wsX6_init_0 _ (List.mem_of_getElem? (i := 4) rfl)) (gi_cons (lg_wsX6_init_0 _ (List.mem_of_getElem? (i := 5) rfl)) (gi_cons (lg_wsX6_init_1 _ (List.mem_of_getElem? (i := 17) rfl)) (gi_cons (lg_wsX6_init_1 _ (List.mem_of_getElem? (i := 18) rfl)) (gi_cons (lg_wsX6_init_1 _ (List.mem_of_getElem? (i := 19) rfl)) (gi_cons (lg_wsX6_init_1 _ (List.mem_of_getElem? (i := 20) rfl)) (gi_cons (lg_wsX6_init_1 _ (List.mem_of_getElem? (i := 21) rfl)) (gi_cons (lg_wsX6_init_1 _ (List.mem_of_getElem? (i := 22) rfl)) (gi_cons (lg_wsX6_init_1 _ (List.mem_of_getElem? (i := 23) rfl)) (gi_cons (lg_wsX6_init_1 _ (List.mem_of_getElem? (i := 1) rfl)) (gi_cons (lg_wsX6_init_1 _ (List.mem_of_getElem? (i := 2) rfl)) (gi_cons (lg_wsX6_init_1 _ (List.mem_of_getElem? (i := 3) rfl)) (gi_cons (lg_wsX6_init_1 _ (List.mem_of_getElem? (i := 5) rfl)) (gi_cons (lg_wsX6_init_1 _ (List.mem_of_getElem? (i := 6) rfl)) gi_nil)))))))))))))))))))))))) (gi_cons (lg_wsX6_init_2 _ (List.mem_of_getElem? (i := 0) rfl)) (gi_cons (lg_wsX6_init_2 _ (List.mem_of_getElem? (i := 1) rfl)) (gi_cons (lg_wsX6_init_2 _ (List.mem_of_getElem? (i := 2) rfl)) (gi_cons (lg_wsX6_init_2 _ (List.mem_of_getElem? (i := 3) rfl)) (gi_cons (lg_wsX6_init_2 _ (List.mem_of_getElem? (i := 4) rfl)) (gi_cons (lg_wsX6_init_2 _ (List.mem_of_getElem? (i := 5) rfl)) gi_nil))))))) ls_wsX6_init_1) ls_wsX6_init_0) ls_wsX6_init_6))
set_option maxRecDepth 20000 in
theorem gX6_init_X0_init : GoodIn wsX6_init (wsX0_init) := ggX6_init_X0_init
set_option maxRecDepth 20000 in
theorem ggX6_init_X5_init : GoodIn wsX6_init wsX5_init := (gi_cons (lg_wsX6_init_2 _ (List.mem_of_getElem? (i := 7) rfl)) (goodIn_app (gi_cons (lg_wsX6_init_2 _ (List.mem_of_getElem? (i := 8) rfl)) (gi_cons (lg_wsX6_init_0 _ (List.mem_of_getElem? (i := 1) rfl)) (gi_cons (lg_wsX6_init_0 _ (List.mem_of_getElem? (i := 2) rfl)) (gi_cons (lg_wsX6_init_1 _ (List.mem_of_getElem? (i := 4) rfl)) (gi_cons (lg_wsX6_init_2 _ (List.mem_of_getElem? (i := 9) rfl)) gi_nil))))) ls_wsX6_init_3))
set_option maxRecDepth 20000 in
theorem gX6_init_X5_init_n33 : GoodIn wsX6_init (wsX5_init) := ggX6_init_X5_init
set_option maxRecDepth 20000 in
theorem ggX6_init_X4_init : GoodIn wsX6_init wsX4_init := (gi_cons (lg_wsX6_init_2 _ (List.mem_of_getElem? (i := 11) rfl)) (goodIn_app (gi_cons (lg_wsX6_init_2 _ (List.mem_of_getElem? (i := 12) rfl)) (gi_cons (lg_wsX6_init_0 _ (List.mem_of_getElem? (i := 1) rfl)) (gi_cons (lg_wsX6_init_0 _ (List.mem_of_getElem? (i := 2) rfl)) (gi_cons (lg_wsX6_init_1 _ (List.mem_of_getElem? (i := 4) rfl)) (gi_cons (lg_wsX6_init_2 _ (List.mem_of_getElem? (i := 13) rfl)) (gi_cons (lg_wsX6_init_2 _ (List.mem_of_getElem? (i := 14) rfl)) (gi_cons (lg_wsX6_init_2 _ (List.mem_of_getElem? (i := 15) rfl)) (gi_cons (lg_wsX6_init_2 _ (List.mem_of_getElem? (i := 16) rfl)) gi_nil)))))))) ls_wsX6_init_4))
set_option maxRecDepth 20000 in
theorem gX6_init_X4_init_n40 : GoodIn wsX6_init (wsX4_init) := ggX6_init_X4_init
set_option maxRecDepth 20000 in
theorem ggX6_init_X2_init : GoodIn wsX6_init wsX2_init := (gi_cons (lg_wsX6_init_2 _ (List.mem_of_getElem? (i := 18) rfl)) (goodIn_app (gi_cons (lg_wsX6_init_2 _ (List.mem_of_getElem? (i := 19) rfl)) (gi_cons (lg_wsX6_init_0 _ (List.mem_of_getElem? (i := 1) rfl)) (gi_cons (lg_wsX6_init_0 _ (List.mem_of_getElem? (i := 2) rfl)) (gi_cons (lg_wsX6_init_1 _ (List.mem_of_getElem? (i := 4) rfl)) (gi_cons (lg_wsX6_init_2 _ (List.mem_of_getElem? (i := 20) rfl)) (gi_cons (lg_wsX6_init_2 _ (List.mem_of_getElem? (i := 21) rfl)) gi_nil)))))) ls_wsX6_init_5))
set_option maxRecDepth 20000 in
theorem gX6_init_X2_init_n47 : GoodIn wsX6_init (wsX2_init) := ggX6_init_X2_init
theorem dX6_init_0 : decode cX6_init 0 = .ok (.aload_n 0, 1) := by decide +kernel
theorem dX6_init_1 : decode cX6_init 1 = .ok (.invokespecial 1, 3) := by decide +kernel
theorem dX6_init_4 : decode cX6_init 4 = .ok (.new 7, 3) := by decide +kernel
theorem dX6_init_7 : decode cX6_init 7 = .ok (.dup, 1) := by decide +kernel
theorem dX6_init_8 : decode cX6_init 8 = .ok (.invokespecial 9, 3) := by decide +kernel
theorem dX6_init_11 : decode cX6_init 11 = .ok (.astore_n 1, 1) := by decide +kernel
theorem dX6_init_12 : decode cX6_init 12 = .ok (.aload_n 0, 1) := by decide +kernel
theorem dX6_init_13 : decode cX6_init 13 = .ok (.new 10, 3) := by decide +kernel
theorem dX6_init_16 : decode cX6_init 16 = .ok (.dup, 1) := by decide +kernel
theorem dX6_init_17 : decode cX6_init 17 = .ok (.aload_n 1, 1) := by decide +kernel
theorem dX6_init_18 : decode cX6_init 18 = .ok (.invokespecial 12, 3) := by decide +kernel
theorem dX6_init_21 : decode cX6_init 21 = .ok (.putfield 15, 3) := by decide +kernel
theorem dX6_init_24 : decode cX6_init 24 = .ok (.aload_n 0, 1) := by decide +kernel
theorem dX6_init_25 : decode cX6_init 25 = .ok (.new 10, 3) := by decide +kernel
theorem dX6_init_28 : decode cX6_init 28 = .ok (.dup, 1) := by decide +kernel
theorem dX6_init_29 : decode cX6_init 29 = .ok (.aload_n 1, 1) := by decide +kernel
theorem dX6_init_30 : decode cX6_init 30 = .ok (.invokespecial 12, 3) := by decide +kernel
theorem dX6_init_33 : decode cX6_init 33 = .ok (.putfield 21, 3) := by decide +kernel
theorem dX6_init_36 : decode cX6_init 36 = .ok (.aload_n 0, 1) := by decide +kernel
theorem dX6_init_37 : decode cX6_init 37 = .ok (.new 10, 3) := by decide +kernel
theorem dX6_init_40 : decode cX6_init 40 = .ok (.dup, 1) := by decide +kernel
theorem dX6_init_41 : decode cX6_init 41 = .ok (.aload_n 1, 1) := by decide +kernel
theorem dX6_init_42 : decode cX6_init 42 = .ok (.invokespecial 12, 3) := by decide +kernel
theorem dX6_init_45 : decode cX6_init 45 = .ok (.putfield 24, 3) := by decide +kernel
theorem dX6_init_48 : decode cX6_init 48 = .ok (.aload_n 0, 1) := by decide +kernel
theorem dX6_init_49 : decode cX6_init 49 = .ok (.bipush 6, 2) := by decide +kernel
theorem dX6_init_51 : decode cX6_init 51 = .ok (.anewarray 10, 3) := by decide +kernel
theorem dX6_init_54 : decode cX6_init 54 = .ok (.putfield 27, 3) := by decide +kernel
theorem dX6_init_57 : decode cX6_init 57 = .ok (.iconst 0, 1) := by decide +kernel
theorem dX6_init_58 : decode cX6_init 58 = .ok (.istore_n 2, 1) := by decide +kernel
theorem dX6_init_59 : decode cX6_init 59 = .ok (.iload_n 2, 1) := by decide +kernel
theorem dX6_init_60 : decode cX6_init 60 = .ok (.bipush 6, 2) := by decide +kernel
theorem dX6_init_62 : decode cX6_init 62 = .ok (.if_icmp .ge 23, 3) := by decide +kernel
theorem dX6_init_65 : decode cX6_init 65 = .ok (.aload_n 0, 1) := by decide +kernel
theorem dX6_init_66 : decode cX6_init 66 = .ok (.getfield 27, 3) := by decide +kernel
theorem dX6_init_69 : decode cX6_init 69 = .ok (.iload_n 2, 1) := by decide +kernel
theorem dX6_init_70 : decode cX6_init 70 = .ok (.new 10, 3) := by decide +kernel
theorem dX6_init_73 : decode cX6_init 73 = .ok (.dup, 1) := by decide +kernel
theorem dX6_init_74 : decode cX6_init 74 = .ok (.aload_n 1, 1) := by decide +kernel
theorem dX6_init_75 : decode cX6_init 75 = .ok (.invokespecial 12, 3) := by decide +kernel
theorem dX6_init_78 : decode cX6_init 78 = .ok (.aastore, 1) := by decide +kernel
theorem dX6_init_79 : decode cX6_init 79 = .ok (.iinc 2 1, 3) := by decide +kernel
theorem dX6_init_82 : decode cX6_init 82 = .ok (.goto (-23), 3) := by decide +kernel
theorem dX6_init_85 : decode cX6_init 85 = .ok (.aload_n 0, 1) := by decide +kernel
theorem dX6_init_86 : decode cX6_init 86 = .ok (.new 31, 3) := by decide +kernel
theorem dX6_init_89 : decode cX6_init 89 = .ok (.dup, 1) := by decide +kernel
theorem dX6_init_90 : decode cX6_init 90 = .ok (.invokespecial 33, 3) := by decide +kernel
theorem dX6_init_93 : decode cX6_init 93 = .ok (.putfield 34, 3) := by decide +kernel
theorem dX6_init_96 : decode cX6_init 96 = .ok (.aload_n 0, 1) := by decide +kernel
theorem dX6_init_97 : decode cX6_init 97 = .ok (.new 38, 3) := by decide +kernel
theorem dX6_init_100 : decode cX6_init 100 = .ok (.dup, 1) := by decide +kernel
theorem dX6_init_101 : decode cX6_init 101 = .ok (.invokespecial 40, 3) := by decide +kernel
theorem dX6_init_104 : decode cX6_init 104 = .ok (.putfield 41, 3) := by decide +kernel
theorem dX6_init_107 : decode cX6_init 107 = .ok (.aload_n 0, 1) := by decide +kernel
theorem dX6_init_108 : decode cX6_init 108 = .ok (.new 45, 3) := by decide +kernel
theorem dX6_init_111 : decode cX6_init 111 = .ok (.dup, 1) := by decide +kernel
theorem dX6_init_112 : decode cX6_init 112 = .ok (.invokespecial 47, 3) := by decide +kernel
theorem dX6_init_115 : decode cX6_init 115 = .ok (.putfield 48, 3) := by decide +kernel
theorem dX6_init_118 : decode cX6_init 118 = .ok (.return_, 1) := by decide +kernel
theorem lg_wsX6_mole_0 : GoodIn wsX6_mole wsX6_mole_r1 := goodIn_sub (fun _ h => (List.mem_cons_of_mem _ (List.mem_append_left _ (List.mem_append_left _ (List.mem_append_left _ (List.mem_append_left _ (List.mem_append_left _ (List.mem_append_left _ (List.mem_append_left _ h))))))))) (by decide +kernel)
theorem lg_wsX6_mole_1 : GoodIn wsX6_mole wsX6_mole_r2 := goodIn_sub (fun _ h => (List.mem_cons_of_mem _ (List.mem_append_left _ (List.mem_append_left _ (List.mem_append_left _ (List.mem_append_left _ (List.mem_append_left _ (List.mem_append_left _ (List.mem_append_right _ (List.mem_append_left _ h)))))))))) (by decide +kernel)
theorem lg_wsX6_mole_2 : GoodIn wsX6_mole wsX6_mole_r3 := goodIn_sub (fun _ h => (List.mem_cons_of_mem _ (List.mem_append_left _ (List.mem_append_left _ (List.mem_append_left _ (List.mem_append_left _ (List.mem_append_left _ (List.mem_append_left _ (List.mem_append_right _ (List.mem_append_right _ (List.mem_append_left _ h))))))))))) (by decide +kernel)
theorem lg_wsX6_mole_3 : GoodIn wsX6_mole wsX6_mole_r4 := goodIn_sub (fun _ h => (List.mem_cons_of_mem _ (List.mem_append_left _ (List.mem_append_left _ (List.mem_append_left _ (List.mem_append_left _ (List.mem_append_left _ (List.mem_append_left _ (List.mem_append_right _ (List.mem_append_right _ (List.mem_append_right _ (List.mem_append_left _ h)))))))))))) (by decide +kernel)
theorem lg_wsX6_mole_4 : GoodIn wsX6_mole wsX6_mole_r5 := goodIn_sub (fun _ h => (List.mem_cons_of_mem _ (List.mem_append_left _ (List.mem_append_left _ (List.mem_append_left _ (List.mem_append_left _ (List.mem_append_left _ (List.mem_append_left _ (List.mem_append_right _ (List.mem_append_right _ (List.mem_append_right _ (List.mem_append_right _ h)))))))))))) (by decide +kernel)
theorem ls_wsX6_mole_0 : GoodIn wsX6_mole wsX60 := goodIn_sub (fun _ h => (List.mem_cons_of_mem _ (List.mem_append_left _ (List.mem_append_left _ (List.mem_append_left _ (List.mem_append_left _ (List.mem_append_left _ (List.mem_append_right _ h)))))))) (by decide +kernel)
theorem ls_wsX6_mole_1 : GoodIn wsX6_mole wsX00 := goodIn_sub (fun _ h => (List.mem_cons_of_mem _ (List.mem_append_left _ (List.mem_append_left _ (List.mem_append_left _ (List.mem_append_left _ (List.mem_append_right _ h))))))) (by decide +kernel)
theorem ls_wsX6_mole_2 : GoodIn wsX6_mole wsX30 := goodIn_sub (fun _ h => (List.mem_cons_of_mem _ (List.mem_append_left _ (List.mem_append_left _ (List.mem_append_left _ (List.mem_append_right _ h)))))) (by decide +kernel)
theorem ls_wsX6_mole_3 : GoodIn wsX6_mole wsX10 := goodIn_sub (fun _ h => (List.mem_cons_of_mem _ (List.mem_append_left _ (List.mem_append_left _ (List.mem_append_right _ h))))) (by decide +kernel)
theorem ls_wsX6_mole_4 : GoodIn wsX6_mole ((vx_atS RX6 68 "java/lang/IllegalStateException" ["java/lang/RuntimeException", "java/lang/Exception"]).filter goodWord) := gi_filter (fun _ h => (List.mem_cons_of_mem _ (List.mem_append_left _ (List.mem_append_right _ h))))
theorem ls_wsX6_mole_5 : GoodIn wsX6_mole ((vx_atS RX6 278 "java/lang/IndexOutOfBoundsException" ["java/lang/RuntimeException", "java/lang/Exception"]).filter goodWord) := gi_filter (fun _ h => (List.mem_cons_of_mem _ (List.mem_append_right _ h)))
set_option maxRecDepth 20000 in
theorem ggX6_mole_X6_checkTuft : GoodIn wsX6_mole wsX6_checkTuft := (gi_cons (lg_wsX6_mole_0 _ (List.mem_of_getElem? (i := 9) rfl)) (goodIn_app (gi_cons (lg_wsX6_mole_0 _ (List.mem_of_getElem? (i := 10) rfl)) (gi_cons (lg_wsX6_mole_0 _ (List.mem_of_getElem? (i := 11) rfl)) gi_nil)) ls_wsX6_mole_5))
set_option maxRecDepth 20000 in
theorem gX6_mole_X6_checkTuft : GoodIn wsX6_mole (wsV RX6 52 RX6 yX6_checkTuft wsX6_checkTuft) := goodIn_app (gi_cons (lg_wsX6_mole_0 _ (List.mem_of_getElem? (i := 5) rfl)) (gi_cons (lg_wsX6_mole_0 _ (List.mem_of_getElem? (i := 6) rfl)) (gi_cons (lg_wsX6_mole_0 _ (List.mem_of_getElem? (i := 7) rfl)) (gi_cons (lg_wsX6_mole_0 _ (List.mem_of_getElem? (i := 8) rfl)) gi_nil)))) ggX6_mole_X6_checkTuft
set_option maxRecDepth 20000 in
theorem ggX6_mole_X6_saveState : GoodIn wsX6_mole wsX6_saveState := (gi_cons (lg_wsX6_mole_0 _ (List.mem_of_getElem? (i := 15) rfl)) (goodIn_app (goodIn_app (goodIn_app (goodIn_app (goodIn_app (gi_cons (lg_wsX6_mole_0 _ (List.mem_of_getElem? (i := 16) rfl)) (gi_cons (lg_wsX6_mole_0 _ (List.mem_of_getElem? (i := 17) rfl)) (gi_cons (lg_wsX6_mole_0 _ (List.mem_of_getElem? (i := 2) rfl)) (gi_cons (lg_wsX6_mole_0 _ (List.mem_of_getElem? (i := 18) rfl)) (gi_cons (lg_wsX6_mole_0 _ (List.mem_of_getElem? (i := 19) rfl)) (gi_cons (lg_wsX6_mole_0 _ (List.mem_of_getElem? (i := 20) rfl)) (gi_cons (lg_wsX6_mole_0 _ (List.mem_of_getElem? (i := 21) rfl)) (gi_cons (lg_wsX6_mole_0 _ (List.mem_of_getElem? (i := 22) rfl)) (gi_cons (lg_wsX6_mole_0 _ (List.mem_of_getElem? (i := 23) rfl)) (gi_cons (lg_wsX6_mole_1 _ (List.mem_of_getElem? (i := 0) rfl)) (gi_cons (lg_wsX6_mole_1 _ (List.mem_of_getElem? (i := 1) rfl)) (gi_cons (lg_wsX6_mole_1 _ (List.mem_of_getElem? (i := 2) rfl)) (gi_cons (lg_wsX6_mole_1 _ (List.mem_of_getElem? (i := 3) rfl)) (gi_cons (lg_wsX6_mole_1 _ (List.mem_of_getElem? (i := 4) rfl)) (gi_cons (lg_wsX6_mole_1 _ (List.mem_of_getElem? (i := 5) rfl)) (gi_cons (lg_wsX6_mole_1 _ (List.mem_of_getElem? (i := 6) rfl)) (gi_cons (lg_wsX6_mole_1 _ (List.mem_of_getElem? (i := 7) rfl)) (gi_cons (lg_wsX6_mole_1 _ (List.mem_of_getElem? (i := 8) rfl)) (gi_cons (lg_wsX6_mole_1 _ (List.mem_of_getElem? (i := 9) rfl)) (gi_cons (lg_wsX6_mole_1 _ (List.mem_of_getElem? (i := 10) rfl)) (gi_cons (lg_wsX6_mole_1 _ (List.mem_of_getElem? (i := 11) rfl)) (gi_cons (lg_wsX6_mole_1 _ (List.mem_of_getElem? (i := 12) rfl)) (gi_cons (lg_wsX6_mole_1 _ (List.mem_of_getElem? (i := 13) rfl)) (gi_cons (lg_wsX6_mole_1 _ (List.mem_of_getElem? (i := 14) rfl)) gi_nil)))))))))))))))))))))))) (gi_cons (lg_wsX6_mole_1 _ (List.mem_of_getElem? (i := 15) rfl)) (gi_cons (lg_wsX6_mole_1 _ (List.mem_of_getElem? (i := 16) rfl)) (gi_cons (lg_wsX6_mole_1 _ (List.mem_of_getElem? (i := 17) rfl)) (gi_cons (lg_wsX6_mole_1 _ (List.mem_of_getElem? (i := 18) rfl)) (gi_cons (lg_wsX6_mole_1 _ (List.mem_of_getElem? (i := 19) rfl)) (gi_cons (lg_wsX6_mole_1 _ (List.mem_of_getElem? (i := 20) rfl)) (gi_cons (lg_wsX6_mole_1 _ (List.mem_of_getElem? (i := 21) rfl)) (gi_cons (lg_wsX6_mole_1 _ (List.mem_of_getElem? (i := 22) rfl)) (gi_cons (lg_wsX6_mole_1 _ (List.mem_of_getElem? (i := 23) rfl)) (gi_cons (lg_wsX6_mole_2 _ (List.mem_of_getElem? (i := 0) rfl)) (gi_cons (lg_wsX6_mole_2 _ (List.mem_of_getElem? (i := 1) rfl)) (gi_cons (lg_wsX6_mole_2 _ (List.mem_of_getElem? (i := 2) rfl)) (gi_cons (lg_wsX6_mole_2 _ (List.mem_of_getElem? (i := 3) rfl)) (gi_cons (lg_wsX6_mole_2 _ (List.mem_of_getElem? (i := 4) rfl)) (gi_cons (lg_wsX6_mole_2 _ (List.mem_of_getElem? (i := 5) rfl)) (gi_cons (lg_wsX6_mole_2 _ (List.mem_of_getElem? (i := 6) rfl)) (gi_cons (lg_wsX6_mole_2 _ (List.mem_of_getElem? (i := 7) rfl)) (gi_cons (lg_wsX6_mole_2 _ (List.mem_of_getElem? (i := 8) rfl)) (gi_cons (lg_wsX6_mole_2 _ (List.mem_of_getElem? (i := 9) rfl)) (gi_cons (lg_wsX6_mole_2 _ (List.mem_of_getElem? (i := 10) rfl)) (gi_cons (lg_wsX6_mole_2 _ (List.mem_of_getElem? (i := 11) rfl)) (gi_cons (lg_wsX6_mole_2 _ (List.mem_of_getElem? (i := 12) rfl)) (gi_cons (lg_wsX6_mole_2 _ (List.mem_of_getElem? (i := 13) rfl)) gi_nil)))))))))))))))))))))))) ls_wsX6_mole_0) ls_wsX6_mole_1) ls_wsX6_mole_2) ls_wsX6_mole_3))
set_option maxRecDepth 20000 in
theorem gX6_mole_X6_saveState : GoodIn wsX6_mole (wsV RX6 71 RX6 yX6_saveState wsX6_saveState) := goodIn_app (gi_cons (lg_wsX6_mole_0 _ (List.mem_of_getElem? (i := 12) rfl)) (gi_cons (lg_wsX6_mole_0 _ (List.mem_of_getElem? (i := 13) rfl)) (gi_cons (lg_wsX6_mole_0 _ (List.mem_of_getElem? (i := 14) rfl)) (gi_cons (lg_wsX6_mole_0 _ (List.mem_of_getElem? (i := 8) rfl)) gi_nil)))) ggX6_mole_X6_saveState
set_option maxRecDepth 20000 in
theorem ggX6_mole_X0_welcome : GoodIn wsX6_mole wsX0_welcome := (gi_cons (lg_wsX6_mole_2 _ (List.mem_of_getElem? (i := 17) rfl)) (goodIn_app (goodIn_app (goodIn_app (goodIn_app (gi_cons (lg_wsX6_mole_1 _ (List.mem_of_getElem? (i := 8) rfl)) (gi_cons (lg_wsX6_mole_1 _ (List.mem_of_getElem? (i := 9) rfl)) (gi_cons (lg_wsX6_mole_2 _ (List.mem_of_getElem? (i := 18) rfl)) (gi_cons (lg_wsX6_mole_1 _ (List.mem_of_getElem? (i := 10) rfl)) (gi_cons (lg_wsX6_mole_2 _ (List.mem_of_getElem? (i := 19) rfl)) (gi_cons (lg_wsX6_mole_2 _ (List.mem_of_getElem? (i := 20) rfl)) (gi_cons (lg_wsX6_mole_2 _ (List.mem_of_getElem? (i := 21) rfl)) (gi_cons (lg_wsX6_mole_2 _ (List.mem_of_getElem? (i := 22) rfl)) (gi_cons (lg_wsX6_mole_2 _ (List.mem_of_getElem? (i := 23) rfl)) (gi_cons (lg_wsX6_mole_0 _ (List.mem_of_getElem? (i := 21) rfl)) (gi_cons (lg_wsX6_mole_3 _ (List.mem_of_getElem? (i := 0) rfl)) (gi_cons (lg_wsX6_mole_0 _ (List.mem_of_getElem? (i := 23) rfl)) (gi_cons (lg_wsX6_mole_1 _ (List.mem_of_getElem? (i := 14) rfl)) (gi_cons (lg_wsX6_mole_1 _ (List.mem_of_getElem? (i := 7) rfl)) (gi_cons (lg_wsX6_mole_3 _ (List.mem_of_getElem? (i := 1) rfl)) (gi_cons (lg_wsX6_mole_3 _ (List.mem_of_getElem? (i := 2) rfl)) (gi_cons (lg_wsX6_mole_3 _ (List.mem_of_getElem? (i := 3) rfl)) (gi_cons (lg_wsX6_mole_3 _ (List.mem_of_getElem? (i := 4) rfl)) (gi_cons (lg_wsX6_mole_3 _ (List.mem_of_getElem? (i := 5) rfl)) (gi_cons (lg_wsX6_mole_3 _ (List.mem_of_getElem? (i := 6) rfl)) (gi_cons (lg_wsX6_mole_3 _ (List.mem_of_getElem? (i := 7) rfl)) (gi_cons (lg_wsX6_mole_3 _ (List.mem_of_getElem? (i := 8) rfl)) (gi_cons (lg_wsX6_mole_3 _ (List.mem_of_getElem? (i := 9) rfl)) (gi_cons (lg_wsX6_mole_3 _ (List.mem_of_getElem? (i := 10) rfl)) gi_nil)))))))))))))))))))))))) (goodIn_app (gi_cons (lg_wsX6_mole_3 _ (List.mem_of_getElem? (i := 11) rfl)) (gi_cons (lg_wsX6_mole_1 _ (List.mem_of_getElem? (i := 19) rfl)) (gi_cons (lg_wsX6_mole_3 _ (List.mem_of_getElem? (i := 12) rfl)) (gi_cons (lg_wsX6_mole_1 _ (List.mem_of_getElem? (i := 21) rfl)) (gi_cons (lg_wsX6_mole_1 _ (List.mem_of_getElem? (i := 22) rfl)) (gi_cons (lg_wsX6_mole_3 _ (List.mem_of_getElem? (i := 13) rfl)) (gi_cons (lg_wsX6_mole_3 _ (List.mem_of_getElem? (i := 14) rfl)) (gi_cons (lg_wsX6_mole_3 _ (List.mem_of_getElem? (i := 15) rfl)) (gi_cons (lg_wsX6_mole_3 _ (List.mem_of_getElem? (i := 16) rfl)) (gi_cons (lg_wsX6_mole_1 _ (List.mem_of_getElem? (i := 23) rfl)) (gi_cons (lg_wsX6_mole_3 _ (List.mem_of_getElem? (i := 17) rfl)) (gi_cons (lg_wsX6_mole_3 _ (List.mem_of_getElem? (i := 18) rfl)) (gi_cons (lg_wsX6_mole_3 _ (List.mem_of_getElem? (i := 19) rfl)) (gi_cons (lg_wsX6_mole_3 _ (List.mem_of_getElem? (i := 20) rfl)) (gi_cons (lg_wsX6_mole_2 _ (List.mem_of_getElem? (i := 1) rfl)) (gi_cons (lg_wsX6_mole_3 _ (List.mem_of_getElem? (i := 21) rfl)) (gi_cons (lg_wsX6_mole_3 _ (List.mem_of_getElem? (i := 22) rfl)) (gi_cons (lg_wsX6_mole_3 _ (List.mem_of_getElem? (i := 23) rfl)) (gi_cons (lg_wsX6_mole_4 _ (List.mem_of_getElem? (i := 0) rfl)) (gi_cons (lg_wsX6_mole_4 _ (List.mem_of_getElem? (i := 1) rfl)) (gi_cons (lg_wsX6_mole_4 _ (List.mem_of_getElem? (i := 2) rfl)) (gi_cons (lg_wsX6_mole_4 _ (List.mem_of_getElem? (i := 3) rfl)) (gi_cons (lg_wsX6_mole_4 _ (List.mem_of_getElem? (i := 4) rfl)) (gi_cons (lg_wsX6_mole_4 _ (List.mem_of_getElem? (i := 5) rfl)) gi_nil)))))))))))))))))))))))) (goodIn_app (gi_cons (lg_wsX6_mole_4 _ (List.mem_of_getElem? (i := 6) rfl)) (gi_cons (lg_wsX6_mole_2 _ (List.mem_of_getElem? (i := 0) rfl)) (gi_cons (lg_wsX6_mole_1 _ (List.mem_of_getElem? (i := 3) rfl)) (gi_cons (lg_wsX6_mole_1 _ (List.mem_of_getElem? (i := 4) rfl)) (gi_cons (lg_wsX6_mole_1 _ (List.mem_of_getElem? (i := 5) rfl)) (gi_cons (lg_wsX6_mole_4 _ (List.mem_of_getElem? (i := 7) rfl)) (gi_cons (lg_wsX6_mole_4 _ (List.mem_of_getElem? (i := 8) rfl)) (gi_cons (lg_wsX6_mole_4 _ (List.mem_of_getElem? (i := 9) rfl)) (gi_cons (lg_wsX6_mole_4 _ (List.mem_of_getElem? (i := 10) rfl)) (gi_cons (lg_wsX6_mole_1 _ (List.mem_of_getElem? (i := 16) rfl)) (gi_cons (lg_wsX6_mole_1 _ (List.mem_of_getElem? (i := 17) rfl)) (gi_cons (lg_wsX6_mole_1 _ (List.mem_of_getElem? (i := 18) rfl)) (gi_cons (lg_wsX6_mole_1 _ (List.mem_of_getElem? (i := 20) rfl)) (gi_cons (lg_wsX6_mole_4 _ (List.mem_of_getElem? (i := 11) rfl)) (gi_cons (lg_wsX6_mole_4 _ (List.mem_of_getElem? (i := 12) rfl)) (gi_cons (lg_wsX6_mole_4 _ (List.mem_of_getElem? (i := 13) rfl)) (gi_cons (lg_wsX6_mole_2 _ (List.mem_of_getElem? (i := 5) rfl)) (gi_cons (lg_wsX6_mole_4 _ (List.mem_of_getElem? (i := 14) rfl)) (gi_cons (lg_wsX6_mole_2 _ (List.mem_of_getElem? (i := 8) rfl)) (gi_cons (lg_wsX6_mole_2 _ (List.mem_of_getElem? (i := 13) rfl)) (gi_cons (lg_wsX6_mole_4 _ (List.mem_of_getElem? (i := 15) rfl)) (gi_cons (lg_wsX6_mole_4 _ (List.mem_of_getElem? (i := 16) rfl)) (gi_cons (lg_wsX6_mole_4 _ (List.mem_of_getElem? (i := 17) rfl)) (gi_cons (lg_wsX6_mole_4 _ (List.mem_of_getElem? (i := 18) rfl)) gi_nil)))))))))))))))))))))))) (gi_cons (lg_wsX6_mole_4 _ (List.mem_of_getElem? (i := 19) rfl)) (gi_cons (lg_wsX6_mole_4 _ (List.mem_of_getElem? (i := 20) rfl)) (gi_cons (lg_wsX6_mole_4 _ (List.mem_of_getElem? (i := 21) rfl)) (gi_cons (lg_wsX6_mole_4 _ (List.mem_of_getElem? (i := 22) rfl)) gi_nil))))))) ls_wsX6_mole_1) ls_wsX6_mole_3) ls_wsX6_mole_2))
set_option maxRecDepth 20000 in
theorem gX6_mole_X0_welcome : GoodIn wsX6_mole (wsV RX6 74 RX0 yX0_welcome wsX0_welcome) := goodIn_app (gi_cons (lg_wsX6_mole_2 _ (List.mem_of_getElem? (i := 14) rfl)) (gi_cons (lg_wsX6_mole_2 _ (List.mem_of_getElem? (i := 15) rfl)) (gi_cons (lg_wsX6_mole_2 _ (List.mem_of_getElem? (i := 16) rfl)) (gi_cons (lg_wsX6_mole_0 _ (List.mem_of_getElem? (i := 21) rfl)) gi_nil)))) ggX6_mole_X0_welcome
theorem dX6_mole_0 : decode cX6_mole 0 = .ok (.aload_n 0, 1) := by decide +kernel
theorem dX6_mole_1 : decode cX6_mole 1 = .ok (.iload_n 1, 1) := by decide +kernel
theorem dX6_mole_2 : decode cX6_mole 2 = .ok (.invokevirtual 52, 3) := by decide +kernel
theorem dX6_mole_5 : decode cX6_mole 5 = .ok (.aload_n 0, 1) := by decide +kernel
theorem dX6_mole_6 : decode cX6_mole 6 = .ok (.getfield 15, 3) := by decide +kernel
theorem dX6_mole_9 : decode cX6_mole 9 = .ok (.getfield 56, 3) := by decide +kernel
theorem dX6_mole_12 : decode cX6_mole 12 = .ok (.iconst 4, 1) := by decide +kernel
theorem dX6_mole_13 : decode cX6_mole 13 = .ok (.if_icmp .ge 15, 3) := by decide +kernel
theorem dX6_mole_16 : decode cX6_mole 16 = .ok (.aload_n 0, 1) := by decide +kernel
theorem dX6_mole_17 : decode cX6_mole 17 = .ok (.getfield 15, 3) := by decide +kernel
theorem dX6_mole_20 : decode cX6_mole 20 = .ok (.getfield 60, 3) := by decide +kernel
theorem dX6_mole_23 : decode cX6_mole 23 = .ok (.iload_n 1, 1) := by decide +kernel
theorem dX6_mole_24 : decode cX6_mole 24 = .ok (.iaload, 1) := by decide +kernel
theorem dX6_mole_25 : decode cX6_mole 25 = .ok (.ifCond .le 13, 3) := by decide +kernel
theorem dX6_mole_28 : decode cX6_mole 28 = .ok (.new 64, 3) := by decide +kernel
theorem dX6_mole_31 : decode cX6_mole 31 = .ok (.dup, 1) := by decide +kernel
theorem dX6_mole_32 : decode cX6_mole 32 = .ok (.ldc 66, 2) := by decide +kernel
theorem dX6_mole_34 : decode cX6_mole 34 = .ok (.invokespecial 68, 3) := by decide +kernel
theorem dX6_mole_37 : decode cX6_mole 37 = .ok (.athrow, 1) := by decide +kernel
theorem dX6_mole_38 : decode cX6_mole 38 = .ok (.aload_n 0, 1) := by decide +kernel
theorem dX6_mole_39 : decode cX6_mole 39 = .ok (.invokevirtual 71, 3) := by decide +kernel
theorem dX6_mole_42 : decode cX6_mole 42 = .ok (.aload_n 0, 1) := by decide +kernel
theorem dX6_mole_43 : decode cX6_mole 43 = .ok (.getfield 15, 3) := by decide +kernel
theorem dX6_mole_46 : decode cX6_mole 46 = .ok (.iload_n 1, 1) := by decide +kernel
theorem dX6_mole_47 : decode cX6_mole 47 = .ok (.invokevirtual 74, 3) := by decide +kernel
theorem dX6_mole_50 : decode cX6_mole 50 = .ok (.ireturn, 1) := by decide +kernel
theorem lg_wsX6_plan_0 : GoodIn wsX6_plan wsX6_plan_r1 := goodIn_sub (fun _ h => (List.mem_cons_of_mem _ (List.mem_append_left _ (List.mem_append_left _ (List.mem_append_left _ (List.mem_append_left _ (List.mem_append_left _ (List.mem_append_left _ (List.mem_append_left _ (List.mem_append_left _ h)))))))))) (by decide +kernel)
theorem lg_wsX6_plan_1 : GoodIn wsX6_plan wsX6_plan_r2 := goodIn_sub (fun _ h => (List.mem_cons_of_mem _ (List.mem_append_left _ (List.mem_append_left _ (List.mem_append_left _ (List.mem_append_left _ (List.mem_append_left _ (List.mem_append_left _ (List.mem_append_left _ (List.mem_append_right _ (List.mem_append_left _ h))))))))))) (by decide +kernel)
theorem lg_wsX6_plan_2 : GoodIn wsX6_plan wsX6_plan_r3 := goodIn_sub (fun _ h => (List.mem_cons_of_mem _ (List.mem_append_left _ (List.mem_append_left _ (List.mem_append_left _ (List.mem_append_left _ (List.mem_append_left _ (List.mem_append_left _ (List.mem_append_left _ (List.mem_append_right _ (List.mem_append_right _ h))))))))))) (by decide +kernel)
theorem ls_wsX6_plan_0 : GoodIn wsX6_plan wsX60 := goodIn_sub (fun _ h => (List.mem_cons_of_mem _ (List.mem_append_left _ (List.mem_append_left _ (List.mem_append_left _ (List.mem_append_left _ (List.mem_append_left _ (List.mem_append_left _ (List.mem_append_right _ h))))))))) (by decide +kernel)
theorem ls_wsX6_plan_1 : GoodIn wsX6_plan wsX00 := goodIn_sub (fun _ h => (List.mem_cons_of_mem _ (List.mem_append_left _ (List.mem_append_left _ (List.mem_append_left _ (List.mem_append_left _ (List.mem_append_left _ (List.mem_append_right _ h)))))))) (by decide +kernel)
theorem ls_wsX6_plan_2 : GoodIn wsX6_plan wsX10 := goodIn_sub (fun _ h => (List.mem_cons_of_mem _ (List.mem_append_left _ (List.mem_append_left _ (List.mem_append_left _ (List.mem_append_left _ (List.mem_append_right _ h))))))) (by decide +kernel)
theorem ls_wsX6_plan_3 : GoodIn wsX6_plan wsX30 := goodIn_sub (fun _ h => (List.mem_cons_of_mem _ (List.mem_append_left _ (List.mem_append_left _ (List.mem_append_left _ (List.mem_append_right _ h)))))) (by decide +kernel)
theorem ls_wsX6_plan_4 : GoodIn wsX6_plan ((vx_atS RX6 85 "java/lang/IllegalArgumentException" ["java/lang/RuntimeException", "java/lang/Exception"]).filter goodWord) := gi_filter (fun _ h => (List.mem_cons_of_mem _ (List.mem_append_left _ (List.mem_append_left _ (List.mem_append_right _ h)))))
theorem ls_wsX6_plan_5 : GoodIn wsX6_plan ((vx_atS RX6 68 "java/lang/IllegalStateException" ["java/lang/RuntimeException", "java/lang/Exception"]).filter goodWord) := gi_filter (fun _ h => (List.mem_cons_of_mem _ (List.mem_append_left _ (List.mem_append_right _ h))))
theorem ls_wsX6_plan_6 : GoodIn wsX6_plan ((vx_atS RX6 278 "java/lang/IndexOutOfBoundsException" ["java/lang/RuntimeException", "java/lang/Exception"]).filter goodWord) := gi_filter (fun _ h => (List.mem_cons_of_mem _ (List.mem_append_right _ h)))
set_option maxRecDepth 20000 in
theorem ggX6_plan_X6_checkMole : GoodIn wsX6_plan wsX6_checkMole := (gi_cons (lg_wsX6_plan_0 _ (List.mem_of_getElem? (i := 11) rfl)) (goodIn_app (goodIn_app (goodIn_app (gi_cons (lg_wsX6_plan_0 _ (List.mem_of_getElem? (i := 12) rfl)) (gi_cons (lg_wsX6_plan_0 _ (List.mem_of_getElem? (i := 13) rfl)) (gi_cons (lg_wsX6_plan_0 _ (List.mem_of_getElem? (i := 4) rfl)) (gi_cons (lg_wsX6_plan_0 _ (List.mem_of_getElem? (i := 14) rfl)) gi_nil)))) ls_wsX6_plan_0) ls_wsX6_plan_1) ls_wsX6_plan_6))
set_option maxRecDepth 20000 in
theorem gX6_plan_X6_checkMole : GoodIn wsX6_plan (wsV RX6 78 RX6 yX6_checkMole wsX6_checkMole) := goodIn_app (gi_cons (lg_wsX6_plan_0 _ (List.mem_of_getElem? (i := 7) rfl)) (gi_cons (lg_wsX6_plan_0 _ (List.mem_of_getElem? (i := 8) rfl)) (gi_cons (lg_wsX6_plan_0 _ (List.mem_of_getElem? (i := 9) rfl)) (gi_cons (lg_wsX6_plan_0 _ (List.mem_of_getElem? (i := 10) rfl)) gi_nil)))) ggX6_plan_X6_checkMole
set_option maxRecDepth 20000 in
theorem ggX6_plan_X6_saveState : GoodIn wsX6_plan wsX6_saveState := (gi_cons (lg_wsX6_plan_0 _ (List.mem_of_getElem? (i := 18) rfl)) (goodIn_app (goodIn_app (goodIn_app (goodIn_app (goodIn_app (gi_cons (lg_wsX6_plan_0 _ (List.mem_of_getElem? (i := 19) rfl)) (gi_cons (lg_wsX6_plan_0 _ (List.mem_of_getElem? (i := 20) rfl)) (gi_cons (lg_wsX6_plan_0 _ (List.mem_of_getElem? (i := 4) rfl)) (gi_cons (lg_wsX6_plan_0 _ (List.mem_of_getElem? (i := 21) rfl)) (gi_cons (lg_wsX6_plan_0 _ (List.mem_of_getElem? (i := 22) rfl)) (gi_cons (lg_wsX6_plan_0 _ (List.mem_of_getElem? (i := 23) rfl)) (gi_cons (lg_wsX6_plan_1 _ (List.mem_of_getElem? (i := 0) rfl)) (gi_cons (lg_wsX6_plan_1 _ (List.mem_of_getElem? (i := 1) rfl)) (gi_cons (lg_wsX6_plan_1 _ (List.mem_of_getElem? (i := 2) rfl)) (gi_cons (lg_wsX6_plan_1 _ (List.mem_of_getElem? (i := 3) rfl)) (gi_cons (lg_wsX6_plan_1 _ (List.mem_of_getElem? (i := 4) rfl)) (gi_cons (lg_wsX6_plan_1 _ (List.mem_of_getElem? (i := 5) rfl)) (gi_cons (lg_wsX6_plan_1 _ (List.mem_of_getElem? (i := 6) rfl)) (gi_cons (lg_wsX6_plan_1 _ (List.mem_of_getElem? (i := 7) rfl)) (gi_cons (lg_wsX6_plan_1 _ (List.mem_of_getElem? (i := 8) rfl)) (gi_cons (lg_wsX6_plan_1 _ (List.mem_of_getElem? (i := 9) rfl)) (gi_cons (lg_wsX6_plan_1 _ (List.mem_of_getElem? (i := 10) rfl)) (gi_cons (lg_wsX6_plan_1 _ (List.mem_of_getElem? (i := 11) rfl)) (gi_cons (lg_wsX6_plan_1 _ (List.mem_of_getElem? (i := 12) rfl)) (gi_cons (lg_wsX6_plan_1 _ (List.mem_of_getElem? (i := 13) rfl)) (gi_cons (lg_wsX6_plan_1 _ (List.mem_of_getElem? (i := 14) rfl)) (gi_cons (lg_wsX6_plan_1 _ (List.mem_of_getElem? (i := 15) rfl)) (gi_cons (lg_wsX6_plan_1 _ (List.mem_of_getElem? (i := 16) rfl)) (gi_cons (lg_wsX6_plan_1 _ (List.mem_of_getElem? (i := 17) rfl)) gi_nil)))))))))))))))))))))))) (gi_cons (lg_wsX6_plan_1 _ (List.mem_of_getElem? (i := 18) rfl)) (gi_cons (lg_wsX6_plan_1 _ (List.mem_of_getElem? (i := 19) rfl)) (gi_cons (lg_wsX6_plan_1 _ (List.mem_of_getElem? (i := 20) rfl)) (gi_cons (lg_wsX6_plan_1 _ (List.mem_of_getElem? (i := 21) rfl)) (gi_cons (lg_wsX6_plan_1 _ (List.mem_of_getElem? (i := 22) rfl)) (gi_cons (lg_wsX6_plan_1 _ (List.mem_of_getElem? (i := 23) rfl)) (gi_cons (lg_wsX6_plan_2 _ (List.mem_of_getElem? (i := 0) rfl)) (gi_cons (lg_wsX6_plan_2 _ (List.mem_of_getElem? (i := 1) rfl)) (gi_cons (lg_wsX6_plan_2 _ (List.mem_of_getElem? (i := 2) rfl)) (gi_cons (lg_wsX6_plan_2 _ (List.mem_of_getElem? (i := 3) rfl)) (gi_cons (lg_wsX6_plan_2 _ (List.mem_of_getElem? (i := 4) rfl)) (gi_cons (lg_wsX6_plan_2 _ (List.mem_of_getElem? (i := 5) rfl)) (gi_cons (lg_wsX6_plan_2 _ (List.mem_of_getElem? (i := 6) rfl)) (gi_cons (lg_wsX6_plan_2 _ (List.mem_of_getElem? (i := 7) rfl)) (gi_cons (lg_wsX6_plan_2 _ (List.mem_of_getElem? (i := 8) rfl)) (gi_cons (lg_wsX6_plan_2 _ (List.mem_of_getElem? (i := 9) rfl)) (gi_cons (lg_wsX6_plan_2 _ (List.mem_of_getElem? (i := 10) rfl)) (gi_cons (lg_wsX6_plan_2 _ (List.mem_of_getElem? (i := 11) rfl)) (gi_cons (lg_wsX6_plan_2 _ (List.mem_of_getElem? (i := 12) rfl)) (gi_cons (lg_wsX6_plan_2 _ (List.mem_of_getElem? (i := 13) rfl)) (gi_cons (lg_wsX6_plan_2 _ (List.mem_of_getElem? (i := 14) rfl)) (gi_cons (lg_wsX6_plan_2 _ (List.mem_of_getElem? (i := 15) rfl)) (gi_cons (lg_wsX6_plan_2 _ (List.mem_of_getElem? (i := 16) rfl)) gi_nil)))))))))))))))))))))))) ls_wsX6_plan_0) ls_wsX6_plan_1) ls_wsX6_plan_3) ls_wsX6_plan_2))
set_option maxRecDepth 20000 in
theorem gX6_plan_X6_saveState : GoodIn wsX6_plan (wsV RX6 71 RX6 yX6_saveState wsX6_saveState) := goodIn_app (gi_cons (lg_wsX6_plan_0 _ (List.mem_of_getElem? (i := 15) rfl)) (gi_cons (lg_wsX6_plan_0 _ (List.mem_of_getElem? (i := 16) rfl)) (gi_cons (lg_wsX6_plan_0 _ (List.mem_of_getElem? (i := 17) rfl)) (gi_cons (lg_wsX6_plan_0 _ (List.mem_of_getElem? (i := 10) rfl)) gi_nil)))) ggX6_plan_X6_saveState
set_option maxRecDepth 20000 in
theorem ggX6_plan_X1_addDirection : GoodIn wsX6_plan wsX1_addDirection := (gi_cons (lg_wsX6_plan_2 _ (List.mem_of_getElem? (i := 20) rfl)) (goodIn_app (gi_cons (lg_wsX6_plan_2 _ (List.mem_of_getElem? (i := 10) rfl)) (gi_cons (lg_wsX6_plan_2 _ (List.mem_of_getElem? (i := 14) rfl)) gi_nil)) ls_wsX6_plan_2))
set_option maxRecDepth 20000 in
theorem gX6_plan_X1_addDirection : GoodIn wsX6_plan (wsV RX6 97 RX1 yX1_addDirection wsX1_addDirection) := goodIn_app (gi_cons (lg_wsX6_plan_2 _ (List.mem_of_getElem? (i := 17) rfl)) (gi_cons (lg_wsX6_plan_2 _ (List.mem_of_getElem? (i := 18) rfl)) (gi_cons (lg_wsX6_plan_2 _ (List.mem_of_getElem? (i := 19) rfl)) (gi_cons (lg_wsX6_plan_2 _ (List.mem_of_getElem? (i := 8) rfl)) gi_nil)))) ggX6_plan_X1_addDirection
theorem dX6_plan_0 : decode cX6_plan 0 = .ok (.aload_n 0, 1) := by decide +kernel
theorem dX6_plan_1 : decode cX6_plan 1 = .ok (.iload_n 1, 1) := by decide +kernel
theorem dX6_plan_2 : decode cX6_plan 2 = .ok (.invokevirtual 78, 3) := by decide +kernel
theorem dX6_plan_5 : decode cX6_plan 5 = .ok (.iload_n 2, 1) := by decide +kernel
theorem dX6_plan_6 : decode cX6_plan 6 = .ok (.ifCond .lt 8, 3) := by decide +kernel
theorem dX6_plan_9 : decode cX6_plan 9 = .ok (.iload_n 2, 1) := by decide +kernel
theorem dX6_plan_10 : decode cX6_plan 10 = .ok (.iconst 3, 1) := by decide +kernel
theorem dX6_plan_11 : decode cX6_plan 11 = .ok (.if_icmp .le 13, 3) := by decide +kernel
theorem dX6_plan_14 : decode cX6_plan 14 = .ok (.new 81, 3) := by decide +kernel
theorem dX6_plan_17 : decode cX6_plan 17 = .ok (.dup, 1) := by decide +kernel
theorem dX6_plan_18 : decode cX6_plan 18 = .ok (.ldc 83, 2) := by decide +kernel
theorem dX6_plan_20 : decode cX6_plan 20 = .ok (.invokespecial 85, 3) := by decide +kernel
theorem dX6_plan_23 : decode cX6_plan 23 = .ok (.athrow, 1) := by decide +kernel
theorem dX6_plan_24 : decode cX6_plan 24 = .ok (.aload_n 0, 1) := by decide +kernel
theorem dX6_plan_25 : decode cX6_plan 25 = .ok (.getfield 15, 3) := by decide +kernel
theorem dX6_plan_28 : decode cX6_plan 28 = .ok (.getfield 86, 3) := by decide +kernel
theorem dX6_plan_31 : decode cX6_plan 31 = .ok (.iload_n 1, 1) := by decide +kernel
theorem dX6_plan_32 : decode cX6_plan 32 = .ok (.aaload, 1) := by decide +kernel
theorem dX6_plan_33 : decode cX6_plan 33 = .ok (.getfield 90, 3) := by decide +kernel
theorem dX6_plan_36 : decode cX6_plan 36 = .ok (.bipush 20, 2) := by decide +kernel
theorem dX6_plan_38 : decode cX6_plan 38 = .ok (.if_icmp .lt 13, 3) := by decide +kernel
theorem dX6_plan_41 : decode cX6_plan 41 = .ok (.new 64, 3) := by decide +kernel
theorem dX6_plan_44 : decode cX6_plan 44 = .ok (.dup, 1) := by decide +kernel
theorem dX6_plan_45 : decode cX6_plan 45 = .ok (.ldc 95, 2) := by decide +kernel
theorem dX6_plan_47 : decode cX6_plan 47 = .ok (.invokespecial 68, 3) := by decide +kernel
theorem dX6_plan_50 : decode cX6_plan 50 = .ok (.athrow, 1) := by decide +kernel
theorem dX6_plan_51 : decode cX6_plan 51 = .ok (.aload_n 0, 1) := by decide +kernel
theorem dX6_plan_52 : decode cX6_plan 52 = .ok (.invokevirtual 71, 3) := by decide +kernel
theorem dX6_plan_55 : decode cX6_plan 55 = .ok (.aload_n 0, 1) := by decide +kernel
theorem dX6_plan_56 : decode cX6_plan 56 = .ok (.getfield 15, 3) := by decide +kernel
theorem dX6_plan_59 : decode cX6_plan 59 = .ok (.getfield 86, 3) := by decide +kernel
theorem dX6_plan_62 : decode cX6_plan 62 = .ok (.iload_n 1, 1) := by decide +kernel
theorem dX6_plan_63 : decode cX6_plan 63 = .ok (.aaload, 1) := by decide +kernel
theorem dX6_plan_64 : decode cX6_plan 64 = .ok (.iload_n 2, 1) := by decide +kernel
theorem dX6_plan_65 : decode cX6_plan 65 = .ok (.invokevirtual 97, 3) := by decide +kernel
theorem dX6_plan_68 : decode cX6_plan 68 = .ok (.aload_n 0, 1) := by decide +kernel
theorem dX6_plan_69 : decode cX6_plan 69 = .ok (.getfield 15, 3) := by decide +kernel
theorem dX6_plan_72 : decode cX6_plan 72 = .ok (.getfield 86, 3) := by decide +kernel
theorem dX6_plan_75 : decode cX6_plan 75 = .ok (.iload_n 1, 1) := by decide +kernel
theorem dX6_plan_76 : decode cX6_plan 76 = .ok (.aaload, 1) := by decide +kernel
theorem dX6_plan_77 : decode cX6_plan 77 = .ok (.getfield 90, 3) := by decide +kernel
theorem dX6_plan_80 : decode cX6_plan 80 = .ok (.ireturn, 1) := by decide +kernel
