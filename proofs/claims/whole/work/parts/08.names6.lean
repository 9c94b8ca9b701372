theorem dX7_init_0 : decode cX7_init 0 = .ok (.aload_n 0, 1) := by decide +kernel
theorem dX7_init_1 : decode cX7_init 1 = .ok (.invokespecial 1, 3) := by decide +kernel
theorem dX7_init_4 : decode cX7_init 4 = .ok (.aload_n 0, 1) := by decide +kernel
theorem dX7_init_5 : decode cX7_init 5 = .ok (.sipush 1472, 3) := by decide +kernel
theorem dX7_init_8 : decode cX7_init 8 = .ok (.newarray .int, 2) := by decide +kernel
theorem dX7_init_10 : decode cX7_init 10 = .ok (.putfield 7, 3) := by decide +kernel
theorem dX7_init_13 : decode cX7_init 13 = .ok (.aload_n 0, 1) := by decide +kernel
theorem dX7_init_14 : decode cX7_init 14 = .ok (.sipush 1472, 3) := by decide +kernel
theorem dX7_init_17 : decode cX7_init 17 = .ok (.newarray .int, 2) := by decide +kernel
theorem dX7_init_19 : decode cX7_init 19 = .ok (.putfield 13, 3) := by decide +kernel
theorem dX7_init_22 : decode cX7_init 22 = .ok (.aload_n 0, 1) := by decide +kernel
theorem dX7_init_23 : decode cX7_init 23 = .ok (.sipush 1472, 3) := by decide +kernel
theorem dX7_init_26 : decode cX7_init 26 = .ok (.newarray .int, 2) := by decide +kernel
theorem dX7_init_28 : decode cX7_init 28 = .ok (.putfield 16, 3) := by decide +kernel
theorem dX7_init_31 : decode cX7_init 31 = .ok (.aload_n 0, 1) := by decide +kernel
theorem dX7_init_32 : decode cX7_init 32 = .ok (.sipush 8832, 3) := by decide +kernel
theorem dX7_init_35 : decode cX7_init 35 = .ok (.newarray .int, 2) := by decide +kernel
theorem dX7_init_37 : decode cX7_init 37 = .ok (.putfield 19, 3) := by decide +kernel
theorem dX7_init_40 : decode cX7_init 40 = .ok (.aload_n 0, 1) := by decide +kernel
theorem dX7_init_41 : decode cX7_init 41 = .ok (.bipush 60, 2) := by decide +kernel
theorem dX7_init_43 : decode cX7_init 43 = .ok (.newarray .int, 2) := by decide +kernel
theorem dX7_init_45 : decode cX7_init 45 = .ok (.putfield 22, 3) := by decide +kernel
theorem dX7_init_48 : decode cX7_init 48 = .ok (.aload_n 0, 1) := by decide +kernel
theorem dX7_init_49 : decode cX7_init 49 = .ok (.sipush 1024, 3) := by decide +kernel
theorem dX7_init_52 : decode cX7_init 52 = .ok (.newarray .int, 2) := by decide +kernel
theorem dX7_init_54 : decode cX7_init 54 = .ok (.putfield 25, 3) := by decide +kernel
theorem dX7_init_57 : decode cX7_init 57 = .ok (.aload_n 0, 1) := by decide +kernel
theorem dX7_init_58 : decode cX7_init 58 = .ok (.bipush 64, 2) := by decide +kernel
theorem dX7_init_60 : decode cX7_init 60 = .ok (.newarray .boolean, 2) := by decide +kernel
theorem dX7_init_62 : decode cX7_init 62 = .ok (.putfield 28, 3) := by decide +kernel
theorem dX7_init_65 : decode cX7_init 65 = .ok (.aload_n 0, 1) := by decide +kernel
theorem dX7_init_66 : decode cX7_init 66 = .ok (.bipush 64, 2) := by decide +kernel
theorem dX7_init_68 : decode cX7_init 68 = .ok (.newarray .int, 2) := by decide +kernel
theorem dX7_init_70 : decode cX7_init 70 = .ok (.putfield 32, 3) := by decide +kernel
theorem dX7_init_73 : decode cX7_init 73 = .ok (.aload_n 0, 1) := by decide +kernel
theorem dX7_init_74 : decode cX7_init 74 = .ok (.bipush 64, 2) := by decide +kernel
theorem dX7_init_76 : decode cX7_init 76 = .ok (.newarray .int, 2) := by decide +kernel
theorem dX7_init_78 : decode cX7_init 78 = .ok (.putfield 35, 3) := by decide +kernel
theorem dX7_init_81 : decode cX7_init 81 = .ok (.aload_n 0, 1) := by decide +kernel
theorem dX7_init_82 : decode cX7_init 82 = .ok (.getfield 7, 3) := by decide +kernel
theorem dX7_init_85 : decode cX7_init 85 = .ok (.bipush 6, 2) := by decide +kernel
theorem dX7_init_87 : decode cX7_init 87 = .ok (.bipush 6, 2) := by decide +kernel
theorem dX7_init_89 : decode cX7_init 89 = .ok (.iastore, 1) := by decide +kernel
theorem dX7_init_90 : decode cX7_init 90 = .ok (.iconst 0, 1) := by decide +kernel
theorem dX7_init_91 : decode cX7_init 91 = .ok (.istore_n 1, 1) := by decide +kernel
theorem dX7_init_92 : decode cX7_init 92 = .ok (.iload_n 1, 1) := by decide +kernel
theorem dX7_init_93 : decode cX7_init 93 = .ok (.bipush 64, 2) := by decide +kernel
theorem dX7_init_95 : decode cX7_init 95 = .ok (.if_icmp .ge 20, 3) := by decide +kernel
theorem dX7_init_98 : decode cX7_init 98 = .ok (.aload_n 0, 1) := by decide +kernel
theorem dX7_init_99 : decode cX7_init 99 = .ok (.getfield 7, 3) := by decide +kernel
theorem dX7_init_102 : decode cX7_init 102 = .ok (.sipush 136, 3) := by decide +kernel
theorem dX7_init_105 : decode cX7_init 105 = .ok (.iload_n 1, 1) := by decide +kernel
theorem dX7_init_106 : decode cX7_init 106 = .ok (.iadd, 1) := by decide +kernel
theorem dX7_init_107 : decode cX7_init 107 = .ok (.iconst (-1), 1) := by decide +kernel
theorem dX7_init_108 : decode cX7_init 108 = .ok (.iastore, 1) := by decide +kernel
theorem dX7_init_109 : decode cX7_init 109 = .ok (.iinc 1 1, 3) := by decide +kernel
theorem dX7_init_112 : decode cX7_init 112 = .ok (.goto (-20), 3) := by decide +kernel
theorem dX7_init_115 : decode cX7_init 115 = .ok (.return_, 1) := by decide +kernel
theorem dX7_thrown_0 : decode cX7_thrown 0 = .ok (.aload_n 0, 1) := by decide +kernel
theorem dX7_thrown_1 : decode cX7_thrown 1 = .ok (.getfield 38, 3) := by decide +kernel
theorem dX7_thrown_4 : decode cX7_thrown 4 = .ok (.ireturn, 1) := by decide +kernel
theorem dX7_in_0 : decode cX7_in 0 = .ok (.iload_n 0, 1) := by decide +kernel
theorem dX7_in_1 : decode cX7_in 1 = .ok (.iload_n 1, 1) := by decide +kernel
theorem dX7_in_2 : decode cX7_in 2 = .ok (.if_icmp .lt 12, 3) := by decide +kernel
theorem dX7_in_5 : decode cX7_in 5 = .ok (.iload_n 0, 1) := by decide +kernel
theorem dX7_in_6 : decode cX7_in 6 = .ok (.iload_n 2, 1) := by decide +kernel
theorem dX7_in_7 : decode cX7_in 7 = .ok (.if_icmp .gt 7, 3) := by decide +kernel
theorem dX7_in_10 : decode cX7_in 10 = .ok (.iconst 1, 1) := by decide +kernel
theorem dX7_in_11 : decode cX7_in 11 = .ok (.goto 4, 3) := by decide +kernel
theorem dX7_in_14 : decode cX7_in 14 = .ok (.iconst 0, 1) := by decide +kernel
theorem dX7_in_15 : decode cX7_in 15 = .ok (.ireturn, 1) := by decide +kernel
theorem dX7_holds_0 : decode cX7_holds 0 = .ok (.aload_n 0, 1) := by decide +kernel
theorem dX7_holds_1 : decode cX7_holds 1 = .ok (.iload_n 1, 1) := by decide +kernel
theorem dX7_holds_2 : decode cX7_holds 2 = .ok (.putfield 38, 3) := by decide +kernel
theorem dX7_holds_5 : decode cX7_holds 5 = .ok (.iload_n 1, 1) := by decide +kernel
theorem dX7_holds_6 : decode cX7_holds 6 = .ok (.ifCond .ne 7, 3) := by decide +kernel
theorem dX7_holds_9 : decode cX7_holds 9 = .ok (.iconst 1, 1) := by decide +kernel
theorem dX7_holds_10 : decode cX7_holds 10 = .ok (.goto 4, 3) := by decide +kernel
theorem dX7_holds_13 : decode cX7_holds 13 = .ok (.iconst 0, 1) := by decide +kernel
theorem dX7_holds_14 : decode cX7_holds 14 = .ok (.ireturn, 1) := by decide +kernel
theorem lg_wsX7_isTuft_0 : GoodIn wsX7_isTuft ([.methodLink RX7 42 yX7_in, .static yX7_in, .initialized RX7, .code yX7_in cX7_in 3 (some .boolean)] : List Cond) := goodIn_sub (fun _ h => (List.mem_cons_of_mem _ h)) (by decide +kernel)
set_option maxRecDepth 20000 in
theorem ggX7_isTuft_X7_in : GoodIn wsX7_isTuft wsX7_in := (gi_cons (lg_wsX7_isTuft_0 _ (List.mem_of_getElem? (i := 3) rfl)) gi_nil)
set_option maxRecDepth 20000 in
theorem gX7_isTuft_X7_in : GoodIn wsX7_isTuft (va_wsS RX7 42 yX7_in wsX7_in) := goodIn_app (gi_cons (lg_wsX7_isTuft_0 _ (List.mem_of_getElem? (i := 0) rfl)) (gi_cons (lg_wsX7_isTuft_0 _ (List.mem_of_getElem? (i := 1) rfl)) (gi_cons (lg_wsX7_isTuft_0 _ (List.mem_of_getElem? (i := 2) rfl)) gi_nil))) ggX7_isTuft_X7_in
theorem dX7_isTuft_0 : decode cX7_isTuft 0 = .ok (.iload_n 0, 1) := by decide +kernel
theorem dX7_isTuft_1 : decode cX7_isTuft 1 = .ok (.iconst 0, 1) := by decide +kernel
theorem dX7_isTuft_2 : decode cX7_isTuft 2 = .ok (.bipush 63, 2) := by decide +kernel
theorem dX7_isTuft_4 : decode cX7_isTuft 4 = .ok (.invokestatic 42, 3) := by decide +kernel
theorem dX7_isTuft_7 : decode cX7_isTuft 7 = .ok (.ireturn, 1) := by decide +kernel
theorem lg_wsX7_isMole_0 : GoodIn wsX7_isMole ([.fieldLink RX7 7 "MolesLawnModel" "s" "[I", .methodLink RX7 42 yX7_in, .static yX7_in, .initialized RX7, .code yX7_in cX7_in 3 (some .boolean)] : List Cond) := goodIn_sub (fun _ h => (List.mem_cons_of_mem _ (List.mem_append_left _ h))) (by decide +kernel)
theorem ls_wsX7_isMole_0 : GoodIn wsX7_isMole wsX70 := goodIn_sub (fun _ h => (List.mem_cons_of_mem _ (List.mem_append_right _ h))) (by decide +kernel)
set_option maxRecDepth 20000 in
theorem ggX7_isMole_X7_in : GoodIn wsX7_isMole wsX7_in := (gi_cons (lg_wsX7_isMole_0 _ (List.mem_of_getElem? (i := 4) rfl)) gi_nil)
set_option maxRecDepth 20000 in
theorem gX7_isMole_X7_in : GoodIn wsX7_isMole (va_wsS RX7 42 yX7_in wsX7_in) := goodIn_app (gi_cons (lg_wsX7_isMole_0 _ (List.mem_of_getElem? (i := 1) rfl)) (gi_cons (lg_wsX7_isMole_0 _ (List.mem_of_getElem? (i := 2) rfl)) (gi_cons (lg_wsX7_isMole_0 _ (List.mem_of_getElem? (i := 3) rfl)) gi_nil))) ggX7_isMole_X7_in
theorem dX7_isMole_0 : decode cX7_isMole 0 = .ok (.iload_n 1, 1) := by decide +kernel
theorem dX7_isMole_1 : decode cX7_isMole 1 = .ok (.iconst 0, 1) := by decide +kernel
theorem dX7_isMole_2 : decode cX7_isMole 2 = .ok (.aload_n 0, 1) := by decide +kernel
theorem dX7_isMole_3 : decode cX7_isMole 3 = .ok (.getfield 7, 3) := by decide +kernel
theorem dX7_isMole_6 : decode cX7_isMole 6 = .ok (.iconst 1, 1) := by decide +kernel
theorem dX7_isMole_7 : decode cX7_isMole 7 = .ok (.iaload, 1) := by decide +kernel
theorem dX7_isMole_8 : decode cX7_isMole 8 = .ok (.iconst 1, 1) := by decide +kernel
theorem dX7_isMole_9 : decode cX7_isMole 9 = .ok (.isub, 1) := by decide +kernel
theorem dX7_isMole_10 : decode cX7_isMole 10 = .ok (.invokestatic 42, 3) := by decide +kernel
theorem dX7_isMole_13 : decode cX7_isMole 13 = .ok (.ireturn, 1) := by decide +kernel
theorem dX7_of_0 : decode cX7_of 0 = .ok (.sipush 264, 3) := by decide +kernel
theorem dX7_of_3 : decode cX7_of 3 = .ok (.bipush 46, 2) := by decide +kernel
theorem dX7_of_5 : decode cX7_of 5 = .ok (.iload_n 0, 1) := by decide +kernel
theorem dX7_of_6 : decode cX7_of 6 = .ok (.imul, 1) := by decide +kernel
theorem dX7_of_7 : decode cX7_of 7 = .ok (.iadd, 1) := by decide +kernel
theorem dX7_of_8 : decode cX7_of 8 = .ok (.iload_n 1, 1) := by decide +kernel
theorem dX7_of_9 : decode cX7_of 9 = .ok (.iadd, 1) := by decide +kernel
theorem dX7_of_10 : decode cX7_of 10 = .ok (.ireturn, 1) := by decide +kernel
theorem dX7_hasMound_0 : decode cX7_hasMound 0 = .ok (.aload_n 0, 1) := by decide +kernel
theorem dX7_hasMound_1 : decode cX7_hasMound 1 = .ok (.getfield 7, 3) := by decide +kernel
theorem dX7_hasMound_4 : decode cX7_hasMound 4 = .ok (.bipush 8, 2) := by decide +kernel
theorem dX7_hasMound_6 : decode cX7_hasMound 6 = .ok (.iload_n 1, 1) := by decide +kernel
theorem dX7_hasMound_7 : decode cX7_hasMound 7 = .ok (.iadd, 1) := by decide +kernel
theorem dX7_hasMound_8 : decode cX7_hasMound 8 = .ok (.iaload, 1) := by decide +kernel
theorem dX7_hasMound_9 : decode cX7_hasMound 9 = .ok (.iconst 1, 1) := by decide +kernel
theorem dX7_hasMound_10 : decode cX7_hasMound 10 = .ok (.if_icmp .ne 7, 3) := by decide +kernel
theorem dX7_hasMound_13 : decode cX7_hasMound 13 = .ok (.iconst 1, 1) := by decide +kernel
theorem dX7_hasMound_14 : decode cX7_hasMound 14 = .ok (.goto 4, 3) := by decide +kernel
theorem dX7_hasMound_17 : decode cX7_hasMound 17 = .ok (.iconst 0, 1) := by decide +kernel
theorem dX7_hasMound_18 : decode cX7_hasMound 18 = .ok (.ireturn, 1) := by decide +kernel
theorem dX7_save_0 : decode cX7_save 0 = .ok (.aload_n 0, 1) := by decide +kernel
theorem dX7_save_1 : decode cX7_save 1 = .ok (.getfield 46, 3) := by decide +kernel
theorem dX7_save_4 : decode cX7_save 4 = .ok (.bipush 6, 2) := by decide +kernel
theorem dX7_save_6 : decode cX7_save 6 = .ok (.if_icmp .ne 44, 3) := by decide +kernel
theorem dX7_save_9 : decode cX7_save 9 = .ok (.iconst 0, 1) := by decide +kernel
theorem dX7_save_10 : decode cX7_save 10 = .ok (.istore_n 1, 1) := by decide +kernel
theorem dX7_save_11 : decode cX7_save 11 = .ok (.iload_n 1, 1) := by decide +kernel
theorem dX7_save_12 : decode cX7_save 12 = .ok (.sipush 7360, 3) := by decide +kernel
theorem dX7_save_15 : decode cX7_save 15 = .ok (.if_icmp .ge 25, 3) := by decide +kernel
theorem dX7_save_18 : decode cX7_save 18 = .ok (.aload_n 0, 1) := by decide +kernel
theorem dX7_save_19 : decode cX7_save 19 = .ok (.getfield 19, 3) := by decide +kernel
theorem dX7_save_22 : decode cX7_save 22 = .ok (.iload_n 1, 1) := by decide +kernel
theorem dX7_save_23 : decode cX7_save 23 = .ok (.aload_n 0, 1) := by decide +kernel
theorem dX7_save_24 : decode cX7_save 24 = .ok (.getfield 19, 3) := by decide +kernel
theorem dX7_save_27 : decode cX7_save 27 = .ok (.sipush 1472, 3) := by decide +kernel
theorem dX7_save_30 : decode cX7_save 30 = .ok (.iload_n 1, 1) := by decide +kernel
theorem dX7_save_31 : decode cX7_save 31 = .ok (.iadd, 1) := by decide +kernel
theorem dX7_save_32 : decode cX7_save 32 = .ok (.iaload, 1) := by decide +kernel
theorem dX7_save_33 : decode cX7_save 33 = .ok (.iastore, 1) := by decide +kernel
theorem dX7_save_34 : decode cX7_save 34 = .ok (.iinc 1 1, 3) := by decide +kernel
theorem dX7_save_37 : decode cX7_save 37 = .ok (.goto (-26), 3) := by decide +kernel
theorem dX7_save_40 : decode cX7_save 40 = .ok (.aload_n 0, 1) := by decide +kernel
theorem dX7_save_41 : decode cX7_save 41 = .ok (.dup, 1) := by decide +kernel
theorem dX7_save_42 : decode cX7_save 42 = .ok (.getfield 46, 3) := by decide +kernel
theorem dX7_save_45 : decode cX7_save 45 = .ok (.iconst 1, 1) := by decide +kernel
theorem dX7_save_46 : decode cX7_save 46 = .ok (.isub, 1) := by decide +kernel
theorem dX7_save_47 : decode cX7_save 47 = .ok (.putfield 46, 3) := by decide +kernel
theorem dX7_save_50 : decode cX7_save 50 = .ok (.iconst 0, 1) := by decide +kernel
theorem dX7_save_51 : decode cX7_save 51 = .ok (.istore_n 1, 1) := by decide +kernel
theorem dX7_save_52 : decode cX7_save 52 = .ok (.iload_n 1, 1) := by decide +kernel
theorem dX7_save_53 : decode cX7_save 53 = .ok (.sipush 1472, 3) := by decide +kernel
theorem dX7_save_56 : decode cX7_save 56 = .ok (.if_icmp .ge 30, 3) := by decide +kernel
theorem dX7_save_59 : decode cX7_save 59 = .ok (.aload_n 0, 1) := by decide +kernel
theorem dX7_save_60 : decode cX7_save 60 = .ok (.getfield 19, 3) := by decide +kernel
theorem dX7_save_63 : decode cX7_save 63 = .ok (.sipush 1472, 3) := by decide +kernel
theorem dX7_save_66 : decode cX7_save 66 = .ok (.aload_n 0, 1) := by decide +kernel
theorem dX7_save_67 : decode cX7_save 67 = .ok (.getfield 46, 3) := by decide +kernel
theorem dX7_save_70 : decode cX7_save 70 = .ok (.imul, 1) := by decide +kernel
theorem dX7_save_71 : decode cX7_save 71 = .ok (.iload_n 1, 1) := by decide +kernel
theorem dX7_save_72 : decode cX7_save 72 = .ok (.iadd, 1) := by decide +kernel
theorem dX7_save_73 : decode cX7_save 73 = .ok (.aload_n 0, 1) := by decide +kernel
theorem dX7_save_74 : decode cX7_save 74 = .ok (.getfield 7, 3) := by decide +kernel
theorem dX7_save_77 : decode cX7_save 77 = .ok (.iload_n 1, 1) := by decide +kernel
theorem dX7_save_78 : decode cX7_save 78 = .ok (.iaload, 1) := by decide +kernel
theorem dX7_save_79 : decode cX7_save 79 = .ok (.iastore, 1) := by decide +kernel
theorem dX7_save_80 : decode cX7_save 80 = .ok (.iinc 1 1, 3) := by decide +kernel
theorem dX7_save_83 : decode cX7_save 83 = .ok (.goto (-31), 3) := by decide +kernel
theorem dX7_save_86 : decode cX7_save 86 = .ok (.aload_n 0, 1) := by decide +kernel
theorem dX7_save_87 : decode cX7_save 87 = .ok (.dup, 1) := by decide +kernel
theorem dX7_save_88 : decode cX7_save 88 = .ok (.getfield 46, 3) := by decide +kernel
theorem dX7_save_91 : decode cX7_save 91 = .ok (.iconst 1, 1) := by decide +kernel
theorem dX7_save_92 : decode cX7_save 92 = .ok (.iadd, 1) := by decide +kernel
theorem dX7_save_93 : decode cX7_save 93 = .ok (.putfield 46, 3) := by decide +kernel
theorem dX7_save_96 : decode cX7_save 96 = .ok (.return_, 1) := by decide +kernel
theorem dX7_putAside_0 : decode cX7_putAside 0 = .ok (.iconst 0, 1) := by decide +kernel
theorem dX7_putAside_1 : decode cX7_putAside 1 = .ok (.istore_n 1, 1) := by decide +kernel
theorem dX7_putAside_2 : decode cX7_putAside 2 = .ok (.iload_n 1, 1) := by decide +kernel
theorem dX7_putAside_3 : decode cX7_putAside 3 = .ok (.sipush 1472, 3) := by decide +kernel
theorem dX7_putAside_6 : decode cX7_putAside 6 = .ok (.if_icmp .ge 21, 3) := by decide +kernel
theorem dX7_putAside_9 : decode cX7_putAside 9 = .ok (.aload_n 0, 1) := by decide +kernel
theorem dX7_putAside_10 : decode cX7_putAside 10 = .ok (.getfield 13, 3) := by decide +kernel
theorem dX7_putAside_13 : decode cX7_putAside 13 = .ok (.iload_n 1, 1) := by decide +kernel
theorem dX7_putAside_14 : decode cX7_putAside 14 = .ok (.aload_n 0, 1) := by decide +kernel
theorem dX7_putAside_15 : decode cX7_putAside 15 = .ok (.getfield 7, 3) := by decide +kernel
theorem dX7_putAside_18 : decode cX7_putAside 18 = .ok (.iload_n 1, 1) := by decide +kernel
theorem dX7_putAside_19 : decode cX7_putAside 19 = .ok (.iaload, 1) := by decide +kernel
theorem dX7_putAside_20 : decode cX7_putAside 20 = .ok (.iastore, 1) := by decide +kernel
theorem dX7_putAside_21 : decode cX7_putAside 21 = .ok (.iinc 1 1, 3) := by decide +kernel
theorem dX7_putAside_24 : decode cX7_putAside 24 = .ok (.goto (-22), 3) := by decide +kernel
theorem dX7_putAside_27 : decode cX7_putAside 27 = .ok (.return_, 1) := by decide +kernel
theorem dX7_putBack_0 : decode cX7_putBack 0 = .ok (.iconst 0, 1) := by decide +kernel
theorem dX7_putBack_1 : decode cX7_putBack 1 = .ok (.istore_n 1, 1) := by decide +kernel
theorem dX7_putBack_2 : decode cX7_putBack 2 = .ok (.iload_n 1, 1) := by decide +kernel
theorem dX7_putBack_3 : decode cX7_putBack 3 = .ok (.sipush 1472, 3) := by decide +kernel
theorem dX7_putBack_6 : decode cX7_putBack 6 = .ok (.if_icmp .ge 21, 3) := by decide +kernel
theorem dX7_putBack_9 : decode cX7_putBack 9 = .ok (.aload_n 0, 1) := by decide +kernel
theorem dX7_putBack_10 : decode cX7_putBack 10 = .ok (.getfield 7, 3) := by decide +kernel
theorem dX7_putBack_13 : decode cX7_putBack 13 = .ok (.iload_n 1, 1) := by decide +kernel
theorem dX7_putBack_14 : decode cX7_putBack 14 = .ok (.aload_n 0, 1) := by decide +kernel
theorem dX7_putBack_15 : decode cX7_putBack 15 = .ok (.getfield 13, 3) := by decide +kernel
theorem dX7_putBack_18 : decode cX7_putBack 18 = .ok (.iload_n 1, 1) := by decide +kernel
theorem dX7_putBack_19 : decode cX7_putBack 19 = .ok (.iaload, 1) := by decide +kernel
theorem dX7_putBack_20 : decode cX7_putBack 20 = .ok (.iastore, 1) := by decide +kernel
theorem dX7_putBack_21 : decode cX7_putBack 21 = .ok (.iinc 1 1, 3) := by decide +kernel
theorem dX7_putBack_24 : decode cX7_putBack 24 = .ok (.goto (-22), 3) := by decide +kernel
theorem dX7_putBack_27 : decode cX7_putBack 27 = .ok (.return_, 1) := by decide +kernel
theorem dX7_tuftAt_0 : decode cX7_tuftAt 0 = .ok (.aload_n 0, 1) := by decide +kernel
theorem dX7_tuftAt_1 : decode cX7_tuftAt 1 = .ok (.getfield 7, 3) := by decide +kernel
theorem dX7_tuftAt_4 : decode cX7_tuftAt 4 = .ok (.sipush 448, 3) := by decide +kernel
theorem dX7_tuftAt_7 : decode cX7_tuftAt 7 = .ok (.iload_n 1, 1) := by decide +kernel
theorem dX7_tuftAt_8 : decode cX7_tuftAt 8 = .ok (.iadd, 1) := by decide +kernel
theorem dX7_tuftAt_9 : decode cX7_tuftAt 9 = .ok (.iaload, 1) := by decide +kernel
theorem dX7_tuftAt_10 : decode cX7_tuftAt 10 = .ok (.bipush 64, 2) := by decide +kernel
theorem dX7_tuftAt_12 : decode cX7_tuftAt 12 = .ok (.irem, 1) := by decide +kernel
theorem dX7_tuftAt_13 : decode cX7_tuftAt 13 = .ok (.ireturn, 1) := by decide +kernel
theorem dX7_endFrom_0 : decode cX7_endFrom 0 = .ok (.iload_n 1, 1) := by decide +kernel
theorem dX7_endFrom_1 : decode cX7_endFrom 1 = .ok (.istore_n 2, 1) := by decide +kernel
theorem dX7_endFrom_2 : decode cX7_endFrom 2 = .ok (.aload_n 0, 1) := by decide +kernel
theorem dX7_endFrom_3 : decode cX7_endFrom 3 = .ok (.getfield 7, 3) := by decide +kernel
theorem dX7_endFrom_6 : decode cX7_endFrom 6 = .ok (.sipush 448, 3) := by decide +kernel
theorem dX7_endFrom_9 : decode cX7_endFrom 9 = .ok (.iload_n 2, 1) := by decide +kernel
theorem dX7_endFrom_10 : decode cX7_endFrom 10 = .ok (.iadd, 1) := by decide +kernel
theorem dX7_endFrom_11 : decode cX7_endFrom 11 = .ok (.iaload, 1) := by decide +kernel
theorem dX7_endFrom_12 : decode cX7_endFrom 12 = .ok (.bipush 64, 2) := by decide +kernel
theorem dX7_endFrom_14 : decode cX7_endFrom 14 = .ok (.if_icmp .ge 9, 3) := by decide +kernel
theorem dX7_endFrom_17 : decode cX7_endFrom 17 = .ok (.iinc 2 1, 3) := by decide +kernel
theorem dX7_endFrom_20 : decode cX7_endFrom 20 = .ok (.goto (-18), 3) := by decide +kernel
theorem dX7_endFrom_23 : decode cX7_endFrom 23 = .ok (.iload_n 2, 1) := by decide +kernel
theorem dX7_endFrom_24 : decode cX7_endFrom 24 = .ok (.ireturn, 1) := by decide +kernel
theorem dX7_tunnels_0 : decode cX7_tunnels 0 = .ok (.iconst 0, 1) := by decide +kernel
theorem dX7_tunnels_1 : decode cX7_tunnels 1 = .ok (.istore_n 1, 1) := by decide +kernel
theorem dX7_tunnels_2 : decode cX7_tunnels 2 = .ok (.iconst 0, 1) := by decide +kernel
theorem dX7_tunnels_3 : decode cX7_tunnels 3 = .ok (.istore_n 2, 1) := by decide +kernel
theorem dX7_tunnels_4 : decode cX7_tunnels 4 = .ok (.iload_n 2, 1) := by decide +kernel
theorem dX7_tunnels_5 : decode cX7_tunnels 5 = .ok (.aload_n 0, 1) := by decide +kernel
theorem dX7_tunnels_6 : decode cX7_tunnels 6 = .ok (.getfield 7, 3) := by decide +kernel
theorem dX7_tunnels_9 : decode cX7_tunnels 9 = .ok (.bipush 7, 2) := by decide +kernel
theorem dX7_tunnels_11 : decode cX7_tunnels 11 = .ok (.iaload, 1) := by decide +kernel
theorem dX7_tunnels_12 : decode cX7_tunnels 12 = .ok (.if_icmp .ge 32, 3) := by decide +kernel
theorem dX7_tunnels_15 : decode cX7_tunnels 15 = .ok (.iload_n 1, 1) := by decide +kernel
theorem dX7_tunnels_16 : decode cX7_tunnels 16 = .ok (.aload_n 0, 1) := by decide +kernel
theorem dX7_tunnels_17 : decode cX7_tunnels 17 = .ok (.getfield 7, 3) := by decide +kernel
theorem dX7_tunnels_20 : decode cX7_tunnels 20 = .ok (.sipush 448, 3) := by decide +kernel
theorem dX7_tunnels_23 : decode cX7_tunnels 23 = .ok (.iload_n 2, 1) := by decide +kernel
theorem dX7_tunnels_24 : decode cX7_tunnels 24 = .ok (.iadd, 1) := by decide +kernel
theorem dX7_tunnels_25 : decode cX7_tunnels 25 = .ok (.iaload, 1) := by decide +kernel
theorem dX7_tunnels_26 : decode cX7_tunnels 26 = .ok (.bipush 64, 2) := by decide +kernel
theorem dX7_tunnels_28 : decode cX7_tunnels 28 = .ok (.if_icmp .ge 7, 3) := by decide +kernel
theorem dX7_tunnels_31 : decode cX7_tunnels 31 = .ok (.iconst 0, 1) := by decide +kernel
theorem dX7_tunnels_32 : decode cX7_tunnels 32 = .ok (.goto 4, 3) := by decide +kernel
theorem dX7_tunnels_35 : decode cX7_tunnels 35 = .ok (.iconst 1, 1) := by decide +kernel
theorem dX7_tunnels_36 : decode cX7_tunnels 36 = .ok (.iadd, 1) := by decide +kernel
theorem dX7_tunnels_37 : decode cX7_tunnels 37 = .ok (.istore_n 1, 1) := by decide +kernel
theorem dX7_tunnels_38 : decode cX7_tunnels 38 = .ok (.iinc 2 1, 3) := by decide +kernel
theorem dX7_tunnels_41 : decode cX7_tunnels 41 = .ok (.goto (-37), 3) := by decide +kernel
theorem dX7_tunnels_44 : decode cX7_tunnels 44 = .ok (.iload_n 1, 1) := by decide +kernel
theorem dX7_tunnels_45 : decode cX7_tunnels 45 = .ok (.ireturn, 1) := by decide +kernel
theorem lg_wsX7_beginOf_0 : GoodIn wsX7_beginOf ([.methodLink RX7 49 yX7_endFrom, .instanceMethod yX7_endFrom, .selects RX7 yX7_endFrom yX7_endFrom, .initialized RX7, .code yX7_endFrom cX7_endFrom 3 (some .int), .fieldLink RX7 7 "MolesLawnModel" "s" "[I"] : List Cond) := goodIn_sub (fun _ h => (List.mem_cons_of_mem _ (List.mem_append_left _ h))) (by decide +kernel)
theorem ls_wsX7_beginOf_0 : GoodIn wsX7_beginOf wsX70 := goodIn_sub (fun _ h => (List.mem_cons_of_mem _ (List.mem_append_right _ h))) (by decide +kernel)
set_option maxRecDepth 20000 in
theorem ggX7_beginOf_X7_endFrom : GoodIn wsX7_beginOf wsX7_endFrom := (gi_cons (lg_wsX7_beginOf_0 _ (List.mem_of_getElem? (i := 4) rfl)) (goodIn_app (gi_cons (lg_wsX7_beginOf_0 _ (List.mem_of_getElem? (i := 5) rfl)) gi_nil) ls_wsX7_beginOf_0))
set_option maxRecDepth 20000 in
theorem gX7_beginOf_X7_endFrom : GoodIn wsX7_beginOf (wsV RX7 49 RX7 yX7_endFrom wsX7_endFrom) := goodIn_app (gi_cons (lg_wsX7_beginOf_0 _ (List.mem_of_getElem? (i := 0) rfl)) (gi_cons (lg_wsX7_beginOf_0 _ (List.mem_of_getElem? (i := 1) rfl)) (gi_cons (lg_wsX7_beginOf_0 _ (List.mem_of_getElem? (i := 2) rfl)) (gi_cons (lg_wsX7_beginOf_0 _ (List.mem_of_getElem? (i := 3) rfl)) gi_nil)))) ggX7_beginOf_X7_endFrom
theorem dX7_beginOf_0 : decode cX7_beginOf 0 = .ok (.iconst 0, 1) := by decide +kernel
theorem dX7_beginOf_1 : decode cX7_beginOf 1 = .ok (.istore_n 2, 1) := by decide +kernel
theorem dX7_beginOf_2 : decode cX7_beginOf 2 = .ok (.iconst 0, 1) := by decide +kernel
theorem dX7_beginOf_3 : decode cX7_beginOf 3 = .ok (.istore_n 3, 1) := by decide +kernel
theorem dX7_beginOf_4 : decode cX7_beginOf 4 = .ok (.iload_n 3, 1) := by decide +kernel
theorem dX7_beginOf_5 : decode cX7_beginOf 5 = .ok (.iload_n 1, 1) := by decide +kernel
theorem dX7_beginOf_6 : decode cX7_beginOf 6 = .ok (.if_icmp .ge 17, 3) := by decide +kernel
theorem dX7_beginOf_9 : decode cX7_beginOf 9 = .ok (.aload_n 0, 1) := by decide +kernel
theorem dX7_beginOf_10 : decode cX7_beginOf 10 = .ok (.iload_n 2, 1) := by decide +kernel
theorem dX7_beginOf_11 : decode cX7_beginOf 11 = .ok (.invokevirtual 49, 3) := by decide +kernel
theorem dX7_beginOf_14 : decode cX7_beginOf 14 = .ok (.iconst 1, 1) := by decide +kernel
theorem dX7_beginOf_15 : decode cX7_beginOf 15 = .ok (.iadd, 1) := by decide +kernel
theorem dX7_beginOf_16 : decode cX7_beginOf 16 = .ok (.istore_n 2, 1) := by decide +kernel
theorem dX7_beginOf_17 : decode cX7_beginOf 17 = .ok (.iinc 3 1, 3) := by decide +kernel
theorem dX7_beginOf_20 : decode cX7_beginOf 20 = .ok (.goto (-16), 3) := by decide +kernel
theorem dX7_beginOf_23 : decode cX7_beginOf 23 = .ok (.iload_n 2, 1) := by decide +kernel
theorem dX7_beginOf_24 : decode cX7_beginOf 24 = .ok (.ireturn, 1) := by decide +kernel
theorem dX7_shifts_0 : decode cX7_shifts 0 = .ok (.aload_n 0, 1) := by decide +kernel
theorem dX7_shifts_1 : decode cX7_shifts 1 = .ok (.getfield 7, 3) := by decide +kernel
theorem dX7_shifts_4 : decode cX7_shifts 4 = .ok (.bipush 7, 2) := by decide +kernel
theorem dX7_shifts_6 : decode cX7_shifts 6 = .ok (.iaload, 1) := by decide +kernel
theorem dX7_shifts_7 : decode cX7_shifts 7 = .ok (.iconst 1, 1) := by decide +kernel
theorem dX7_shifts_8 : decode cX7_shifts 8 = .ok (.isub, 1) := by decide +kernel
theorem dX7_shifts_9 : decode cX7_shifts 9 = .ok (.istore_n 3, 1) := by decide +kernel
theorem dX7_shifts_10 : decode cX7_shifts 10 = .ok (.iload_n 3, 1) := by decide +kernel
theorem dX7_shifts_11 : decode cX7_shifts 11 = .ok (.iload_n 1, 1) := by decide +kernel
theorem dX7_shifts_12 : decode cX7_shifts 12 = .ok (.if_icmp .lt 35, 3) := by decide +kernel
theorem dX7_shifts_15 : decode cX7_shifts 15 = .ok (.iload_n 2, 1) := by decide +kernel
theorem dX7_shifts_16 : decode cX7_shifts 16 = .ok (.ifCond .le 31, 3) := by decide +kernel
theorem dX7_shifts_19 : decode cX7_shifts 19 = .ok (.aload_n 0, 1) := by decide +kernel
theorem dX7_shifts_20 : decode cX7_shifts 20 = .ok (.getfield 7, 3) := by decide +kernel
theorem dX7_shifts_23 : decode cX7_shifts 23 = .ok (.sipush 448, 3) := by decide +kernel
theorem dX7_shifts_26 : decode cX7_shifts 26 = .ok (.iload_n 3, 1) := by decide +kernel
theorem dX7_shifts_27 : decode cX7_shifts 27 = .ok (.iadd, 1) := by decide +kernel
theorem dX7_shifts_28 : decode cX7_shifts 28 = .ok (.iload_n 2, 1) := by decide +kernel
theorem dX7_shifts_29 : decode cX7_shifts 29 = .ok (.iadd, 1) := by decide +kernel
theorem dX7_shifts_30 : decode cX7_shifts 30 = .ok (.aload_n 0, 1) := by decide +kernel
theorem dX7_shifts_31 : decode cX7_shifts 31 = .ok (.getfield 7, 3) := by decide +kernel
theorem dX7_shifts_34 : decode cX7_shifts 34 = .ok (.sipush 448, 3) := by decide +kernel
theorem dX7_shifts_37 : decode cX7_shifts 37 = .ok (.iload_n 3, 1) := by decide +kernel
theorem dX7_shifts_38 : decode cX7_shifts 38 = .ok (.iadd, 1) := by decide +kernel
theorem dX7_shifts_39 : decode cX7_shifts 39 = .ok (.iaload, 1) := by decide +kernel
theorem dX7_shifts_40 : decode cX7_shifts 40 = .ok (.iastore, 1) := by decide +kernel
theorem dX7_shifts_41 : decode cX7_shifts 41 = .ok (.iinc 3 (-1), 3) := by decide +kernel
theorem dX7_shifts_44 : decode cX7_shifts 44 = .ok (.goto (-34), 3) := by decide +kernel
theorem dX7_shifts_47 : decode cX7_shifts 47 = .ok (.iload_n 1, 1) := by decide +kernel
theorem dX7_shifts_48 : decode cX7_shifts 48 = .ok (.istore_n 3, 1) := by decide +kernel
theorem dX7_shifts_49 : decode cX7_shifts 49 = .ok (.iload_n 3, 1) := by decide +kernel
theorem dX7_shifts_50 : decode cX7_shifts 50 = .ok (.aload_n 0, 1) := by decide +kernel
theorem dX7_shifts_51 : decode cX7_shifts 51 = .ok (.getfield 7, 3) := by decide +kernel
theorem dX7_shifts_54 : decode cX7_shifts 54 = .ok (.bipush 7, 2) := by decide +kernel
theorem dX7_shifts_56 : decode cX7_shifts 56 = .ok (.iaload, 1) := by decide +kernel
theorem dX7_shifts_57 : decode cX7_shifts 57 = .ok (.if_icmp .ge 35, 3) := by decide +kernel
theorem dX7_shifts_60 : decode cX7_shifts 60 = .ok (.iload_n 2, 1) := by decide +kernel
theorem dX7_shifts_61 : decode cX7_shifts 61 = .ok (.ifCond .ge 31, 3) := by decide +kernel
theorem dX7_shifts_64 : decode cX7_shifts 64 = .ok (.aload_n 0, 1) := by decide +kernel
theorem dX7_shifts_65 : decode cX7_shifts 65 = .ok (.getfield 7, 3) := by decide +kernel
theorem dX7_shifts_68 : decode cX7_shifts 68 = .ok (.sipush 448, 3) := by decide +kernel
theorem dX7_shifts_71 : decode cX7_shifts 71 = .ok (.iload_n 3, 1) := by decide +kernel
theorem dX7_shifts_72 : decode cX7_shifts 72 = .ok (.iadd, 1) := by decide +kernel
theorem dX7_shifts_73 : decode cX7_shifts 73 = .ok (.iload_n 2, 1) := by decide +kernel
theorem dX7_shifts_74 : decode cX7_shifts 74 = .ok (.iadd, 1) := by decide +kernel
theorem dX7_shifts_75 : decode cX7_shifts 75 = .ok (.aload_n 0, 1) := by decide +kernel
theorem dX7_shifts_76 : decode cX7_shifts 76 = .ok (.getfield 7, 3) := by decide +kernel
theorem dX7_shifts_79 : decode cX7_shifts 79 = .ok (.sipush 448, 3) := by decide +kernel
theorem dX7_shifts_82 : decode cX7_shifts 82 = .ok (.iload_n 3, 1) := by decide +kernel
theorem dX7_shifts_83 : decode cX7_shifts 83 = .ok (.iadd, 1) := by decide +kernel
theorem dX7_shifts_84 : decode cX7_shifts 84 = .ok (.iaload, 1) := by decide +kernel
theorem dX7_shifts_85 : decode cX7_shifts 85 = .ok (.iastore, 1) := by decide +kernel
theorem dX7_shifts_86 : decode cX7_shifts 86 = .ok (.iinc 3 1, 3) := by decide +kernel
theorem dX7_shifts_89 : decode cX7_shifts 89 = .ok (.goto (-40), 3) := by decide +kernel
theorem dX7_shifts_92 : decode cX7_shifts 92 = .ok (.aload_n 0, 1) := by decide +kernel
theorem dX7_shifts_93 : decode cX7_shifts 93 = .ok (.getfield 7, 3) := by decide +kernel
theorem dX7_shifts_96 : decode cX7_shifts 96 = .ok (.bipush 7, 2) := by decide +kernel
theorem dX7_shifts_98 : decode cX7_shifts 98 = .ok (.dup2, 1) := by decide +kernel
theorem dX7_shifts_99 : decode cX7_shifts 99 = .ok (.iaload, 1) := by decide +kernel
theorem dX7_shifts_100 : decode cX7_shifts 100 = .ok (.iload_n 2, 1) := by decide +kernel
theorem dX7_shifts_101 : decode cX7_shifts 101 = .ok (.iadd, 1) := by decide +kernel
theorem dX7_shifts_102 : decode cX7_shifts 102 = .ok (.iastore, 1) := by decide +kernel
theorem dX7_shifts_103 : decode cX7_shifts 103 = .ok (.aload_n 0, 1) := by decide +kernel
theorem dX7_shifts_104 : decode cX7_shifts 104 = .ok (.getfield 7, 3) := by decide +kernel
theorem dX7_shifts_107 : decode cX7_shifts 107 = .ok (.bipush 7, 2) := by decide +kernel
theorem dX7_shifts_109 : decode cX7_shifts 109 = .ok (.iaload, 1) := by decide +kernel
theorem dX7_shifts_110 : decode cX7_shifts 110 = .ok (.istore_n 3, 1) := by decide +kernel
theorem dX7_shifts_111 : decode cX7_shifts 111 = .ok (.iload_n 3, 1) := by decide +kernel
theorem dX7_shifts_112 : decode cX7_shifts 112 = .ok (.aload_n 0, 1) := by decide +kernel
theorem dX7_shifts_113 : decode cX7_shifts 113 = .ok (.getfield 7, 3) := by decide +kernel
theorem dX7_shifts_116 : decode cX7_shifts 116 = .ok (.bipush 7, 2) := by decide +kernel
theorem dX7_shifts_118 : decode cX7_shifts 118 = .ok (.iaload, 1) := by decide +kernel
theorem dX7_shifts_119 : decode cX7_shifts 119 = .ok (.iload_n 2, 1) := by decide +kernel
theorem dX7_shifts_120 : decode cX7_shifts 120 = .ok (.isub, 1) := by decide +kernel
theorem dX7_shifts_121 : decode cX7_shifts 121 = .ok (.if_icmp .ge 20, 3) := by decide +kernel
theorem dX7_shifts_124 : decode cX7_shifts 124 = .ok (.aload_n 0, 1) := by decide +kernel
theorem dX7_shifts_125 : decode cX7_shifts 125 = .ok (.getfield 7, 3) := by decide +kernel
theorem dX7_shifts_128 : decode cX7_shifts 128 = .ok (.sipush 448, 3) := by decide +kernel
theorem dX7_shifts_131 : decode cX7_shifts 131 = .ok (.iload_n 3, 1) := by decide +kernel
theorem dX7_shifts_132 : decode cX7_shifts 132 = .ok (.iadd, 1) := by decide +kernel
theorem dX7_shifts_133 : decode cX7_shifts 133 = .ok (.iconst 0, 1) := by decide +kernel
theorem dX7_shifts_134 : decode cX7_shifts 134 = .ok (.iastore, 1) := by decide +kernel
theorem dX7_shifts_135 : decode cX7_shifts 135 = .ok (.iinc 3 1, 3) := by decide +kernel
theorem dX7_shifts_138 : decode cX7_shifts 138 = .ok (.goto (-27), 3) := by decide +kernel
theorem dX7_shifts_141 : decode cX7_shifts 141 = .ok (.return_, 1) := by decide +kernel
theorem lg_wsX7_find_0 : GoodIn wsX7_find ([.methodLink RX7 53 yX7_tuftAt, .instanceMethod yX7_tuftAt, .selects RX7 yX7_tuftAt yX7_tuftAt, .initialized RX7, .code yX7_tuftAt cX7_tuftAt 2 (some .int), .fieldLink RX7 7 "MolesLawnModel" "s" "[I"] : List Cond) := goodIn_sub (fun _ h => (List.mem_cons_of_mem _ (List.mem_append_left _ h))) (by decide +kernel)
theorem ls_wsX7_find_0 : GoodIn wsX7_find wsX70 := goodIn_sub (fun _ h => (List.mem_cons_of_mem _ (List.mem_append_right _ h))) (by decide +kernel)
set_option maxRecDepth 20000 in
theorem ggX7_find_X7_tuftAt : GoodIn wsX7_find wsX7_tuftAt := (gi_cons (lg_wsX7_find_0 _ (List.mem_of_getElem? (i := 4) rfl)) (goodIn_app (gi_cons (lg_wsX7_find_0 _ (List.mem_of_getElem? (i := 5) rfl)) gi_nil) ls_wsX7_find_0))
set_option maxRecDepth 20000 in
theorem gX7_find_X7_tuftAt : GoodIn wsX7_find (wsV RX7 53 RX7 yX7_tuftAt wsX7_tuftAt) := goodIn_app (gi_cons (lg_wsX7_find_0 _ (List.mem_of_getElem? (i := 0) rfl)) (gi_cons (lg_wsX7_find_0 _ (List.mem_of_getElem? (i := 1) rfl)) (gi_cons (lg_wsX7_find_0 _ (List.mem_of_getElem? (i := 2) rfl)) (gi_cons (lg_wsX7_find_0 _ (List.mem_of_getElem? (i := 3) rfl)) gi_nil)))) ggX7_find_X7_tuftAt
theorem dX7_find_0 : decode cX7_find 0 = .ok (.iconst (-1), 1) := by decide +kernel
theorem dX7_find_1 : decode cX7_find 1 = .ok (.istore 5, 2) := by decide +kernel
theorem dX7_find_3 : decode cX7_find 3 = .ok (.iload_n 2, 1) := by decide +kernel
theorem dX7_find_4 : decode cX7_find 4 = .ok (.istore 6, 2) := by decide +kernel
theorem dX7_find_6 : decode cX7_find 6 = .ok (.iload 6, 2) := by decide +kernel
theorem dX7_find_8 : decode cX7_find 8 = .ok (.iload_n 3, 1) := by decide +kernel
theorem dX7_find_9 : decode cX7_find 9 = .ok (.if_icmp .gt 39, 3) := by decide +kernel
theorem dX7_find_12 : decode cX7_find 12 = .ok (.aload_n 0, 1) := by decide +kernel
theorem dX7_find_13 : decode cX7_find 13 = .ok (.iload 6, 2) := by decide +kernel
theorem dX7_find_15 : decode cX7_find 15 = .ok (.invokevirtual 53, 3) := by decide +kernel
theorem dX7_find_18 : decode cX7_find 18 = .ok (.iload_n 1, 1) := by decide +kernel
theorem dX7_find_19 : decode cX7_find 19 = .ok (.if_icmp .ne 19, 3) := by decide +kernel
theorem dX7_find_22 : decode cX7_find 22 = .ok (.iload 4, 2) := by decide +kernel
theorem dX7_find_24 : decode cX7_find 24 = .ok (.ifCond .ne 9, 3) := by decide +kernel
theorem dX7_find_27 : decode cX7_find 27 = .ok (.iload 5, 2) := by decide +kernel
theorem dX7_find_29 : decode cX7_find 29 = .ok (.iconst (-1), 1) := by decide +kernel
theorem dX7_find_30 : decode cX7_find 30 = .ok (.if_icmp .ne 8, 3) := by decide +kernel
theorem dX7_find_33 : decode cX7_find 33 = .ok (.iload 6, 2) := by decide +kernel
theorem dX7_find_35 : decode cX7_find 35 = .ok (.goto 5, 3) := by decide +kernel
theorem dX7_find_38 : decode cX7_find 38 = .ok (.iload 5, 2) := by decide +kernel
theorem dX7_find_40 : decode cX7_find 40 = .ok (.istore 5, 2) := by decide +kernel
theorem dX7_find_42 : decode cX7_find 42 = .ok (.iinc 6 1, 3) := by decide +kernel
theorem dX7_find_45 : decode cX7_find 45 = .ok (.goto (-39), 3) := by decide +kernel
theorem dX7_find_48 : decode cX7_find 48 = .ok (.iload 5, 2) := by decide +kernel
theorem dX7_find_50 : decode cX7_find 50 = .ok (.ireturn, 1) := by decide +kernel
theorem lg_wsX7_splits_0 : GoodIn wsX7_splits ([.fieldLink RX7 7 "MolesLawnModel" "s" "[I", .methodLink RX7 49 yX7_endFrom, .instanceMethod yX7_endFrom, .selects RX7 yX7_endFrom yX7_endFrom, .initialized RX7, .code yX7_endFrom cX7_endFrom 3 (some .int), .methodLink RX7 56 yX7_find, .instanceMethod yX7_find, .selects RX7 yX7_find yX7_find, .code yX7_find cX7_find 7 (some .int), .methodLink RX7 53 yX7_tuftAt, .instanceMethod yX7_tuftAt, .selects RX7 yX7_tuftAt yX7_tuftAt, .code yX7_tuftAt cX7_tuftAt 2 (some .int), .methodLink RX7 60 yX7_shifts, .instanceMethod yX7_shifts, .selects RX7 yX7_shifts yX7_shifts, .code yX7_shifts cX7_shifts 4 none] : List Cond) := goodIn_sub (fun _ h => (List.mem_cons_of_mem _ (List.mem_append_left _ h))) (by decide +kernel)
theorem ls_wsX7_splits_0 : GoodIn wsX7_splits wsX70 := goodIn_sub (fun _ h => (List.mem_cons_of_mem _ (List.mem_append_right _ h))) (by decide +kernel)
set_option maxRecDepth 20000 in
theorem ggX7_splits_X7_endFrom : GoodIn wsX7_splits wsX7_endFrom := (gi_cons (lg_wsX7_splits_0 _ (List.mem_of_getElem? (i := 5) rfl)) (goodIn_app (gi_cons (lg_wsX7_splits_0 _ (List.mem_of_getElem? (i := 0) rfl)) gi_nil) ls_wsX7_splits_0))
set_option maxRecDepth 20000 in
theorem gX7_splits_X7_endFrom : GoodIn wsX7_splits (wsV RX7 49 RX7 yX7_endFrom wsX7_endFrom) := goodIn_app (gi_cons (lg_wsX7_splits_0 _ (List.mem_of_getElem? (i := 1) rfl)) (gi_cons (lg_wsX7_splits_0 _ (List.mem_of_getElem? (i := 2) rfl)) (gi_cons (lg_wsX7_splits_0 _ (List.mem_of_getElem? (i := 3) rfl)) (gi_cons (lg_wsX7_splits_0 _ (List.mem_of_getElem? (i := 4) rfl)) gi_nil)))) ggX7_splits_X7_endFrom
set_option maxRecDepth 20000 in
theorem ggX7_splits_X7_find : GoodIn wsX7_splits wsX7_find := (gi_cons (lg_wsX7_splits_0 _ (List.mem_of_getElem? (i := 9) rfl)) (goodIn_app (gi_cons (lg_wsX7_splits_0 _ (List.mem_of_getElem? (i := 10) rfl)) (gi_cons (lg_wsX7_splits_0 _ (List.mem_of_getElem? (i := 11) rfl)) (gi_cons (lg_wsX7_splits_0 _ (List.mem_of_getElem? (i := 12) rfl)) (gi_cons (lg_wsX7_splits_0 _ (List.mem_of_getElem? (i := 4) rfl)) (gi_cons (lg_wsX7_splits_0 _ (List.mem_of_getElem? (i := 13) rfl)) (gi_cons (lg_wsX7_splits_0 _ (List.mem_of_getElem? (i := 0) rfl)) gi_nil)))))) ls_wsX7_splits_0))
set_option maxRecDepth 20000 in
theorem gX7_splits_X7_find : GoodIn wsX7_splits (wsV RX7 56 RX7 yX7_find wsX7_find) := goodIn_app (gi_cons (lg_wsX7_splits_0 _ (List.mem_of_getElem? (i := 6) rfl)) (gi_cons (lg_wsX7_splits_0 _ (List.mem_of_getElem? (i := 7) rfl)) (gi_cons (lg_wsX7_splits_0 _ (List.mem_of_getElem? (i := 8) rfl)) (gi_cons (lg_wsX7_splits_0 _ (List.mem_of_getElem? (i := 4) rfl)) gi_nil)))) ggX7_splits_X7_find
set_option maxRecDepth 20000 in
theorem ggX7_splits_X7_shifts : GoodIn wsX7_splits wsX7_shifts := (gi_cons (lg_wsX7_splits_0 _ (List.mem_of_getElem? (i := 17) rfl)) (goodIn_app (gi_cons (lg_wsX7_splits_0 _ (List.mem_of_getElem? (i := 0) rfl)) gi_nil) ls_wsX7_splits_0))
set_option maxRecDepth 20000 in
theorem gX7_splits_X7_shifts : GoodIn wsX7_splits (wsV RX7 60 RX7 yX7_shifts wsX7_shifts) := goodIn_app (gi_cons (lg_wsX7_splits_0 _ (List.mem_of_getElem? (i := 14) rfl)) (gi_cons (lg_wsX7_splits_0 _ (List.mem_of_getElem? (i := 15) rfl)) (gi_cons (lg_wsX7_splits_0 _ (List.mem_of_getElem? (i := 16) rfl)) (gi_cons (lg_wsX7_splits_0 _ (List.mem_of_getElem? (i := 4) rfl)) gi_nil)))) ggX7_splits_X7_shifts
theorem dX7_splits_0 : decode cX7_splits 0 = .ok (.iconst 0, 1) := by decide +kernel
theorem dX7_splits_1 : decode cX7_splits 1 = .ok (.istore_n 2, 1) := by decide +kernel
theorem dX7_splits_2 : decode cX7_splits 2 = .ok (.iload_n 2, 1) := by decide +kernel
theorem dX7_splits_3 : decode cX7_splits 3 = .ok (.aload_n 0, 1) := by decide +kernel
theorem dX7_splits_4 : decode cX7_splits 4 = .ok (.getfield 7, 3) := by decide +kernel
theorem dX7_splits_7 : decode cX7_splits 7 = .ok (.bipush 7, 2) := by decide +kernel
theorem dX7_splits_9 : decode cX7_splits 9 = .ok (.iaload, 1) := by decide +kernel
theorem dX7_splits_10 : decode cX7_splits 10 = .ok (.if_icmp .ge 112, 3) := by decide +kernel
theorem dX7_splits_13 : decode cX7_splits 13 = .ok (.aload_n 0, 1) := by decide +kernel
theorem dX7_splits_14 : decode cX7_splits 14 = .ok (.iload_n 2, 1) := by decide +kernel
theorem dX7_splits_15 : decode cX7_splits 15 = .ok (.invokevirtual 49, 3) := by decide +kernel
theorem dX7_splits_18 : decode cX7_splits 18 = .ok (.istore_n 3, 1) := by decide +kernel
theorem dX7_splits_19 : decode cX7_splits 19 = .ok (.aload_n 0, 1) := by decide +kernel
theorem dX7_splits_20 : decode cX7_splits 20 = .ok (.iload_n 1, 1) := by decide +kernel
theorem dX7_splits_21 : decode cX7_splits 21 = .ok (.iload_n 2, 1) := by decide +kernel
theorem dX7_splits_22 : decode cX7_splits 22 = .ok (.iload_n 3, 1) := by decide +kernel
theorem dX7_splits_23 : decode cX7_splits 23 = .ok (.iconst 0, 1) := by decide +kernel
theorem dX7_splits_24 : decode cX7_splits 24 = .ok (.invokevirtual 56, 3) := by decide +kernel
theorem dX7_splits_27 : decode cX7_splits 27 = .ok (.istore 4, 2) := by decide +kernel
theorem dX7_splits_29 : decode cX7_splits 29 = .ok (.iload 4, 2) := by decide +kernel
theorem dX7_splits_31 : decode cX7_splits 31 = .ok (.iconst (-1), 1) := by decide +kernel
theorem dX7_splits_32 : decode cX7_splits 32 = .ok (.if_icmp .eq 83, 3) := by decide +kernel
theorem dX7_splits_35 : decode cX7_splits 35 = .ok (.aload_n 0, 1) := by decide +kernel
theorem dX7_splits_36 : decode cX7_splits 36 = .ok (.iload_n 1, 1) := by decide +kernel
theorem dX7_splits_37 : decode cX7_splits 37 = .ok (.iload_n 2, 1) := by decide +kernel
theorem dX7_splits_38 : decode cX7_splits 38 = .ok (.iload_n 3, 1) := by decide +kernel
theorem dX7_splits_39 : decode cX7_splits 39 = .ok (.iconst 1, 1) := by decide +kernel
theorem dX7_splits_40 : decode cX7_splits 40 = .ok (.invokevirtual 56, 3) := by decide +kernel
theorem dX7_splits_43 : decode cX7_splits 43 = .ok (.istore 5, 2) := by decide +kernel
theorem dX7_splits_45 : decode cX7_splits 45 = .ok (.aload_n 0, 1) := by decide +kernel
theorem dX7_splits_46 : decode cX7_splits 46 = .ok (.getfield 7, 3) := by decide +kernel
theorem dX7_splits_49 : decode cX7_splits 49 = .ok (.sipush 448, 3) := by decide +kernel
theorem dX7_splits_52 : decode cX7_splits 52 = .ok (.iload 4, 2) := by decide +kernel
theorem dX7_splits_54 : decode cX7_splits 54 = .ok (.iadd, 1) := by decide +kernel
theorem dX7_splits_55 : decode cX7_splits 55 = .ok (.iload_n 1, 1) := by decide +kernel
theorem dX7_splits_56 : decode cX7_splits 56 = .ok (.bipush 64, 2) := by decide +kernel
theorem dX7_splits_58 : decode cX7_splits 58 = .ok (.iadd, 1) := by decide +kernel
theorem dX7_splits_59 : decode cX7_splits 59 = .ok (.iastore, 1) := by decide +kernel
theorem dX7_splits_60 : decode cX7_splits 60 = .ok (.iload 4, 2) := by decide +kernel
theorem dX7_splits_62 : decode cX7_splits 62 = .ok (.iload 5, 2) := by decide +kernel
theorem dX7_splits_64 : decode cX7_splits 64 = .ok (.if_icmp .ne 29, 3) := by decide +kernel
theorem dX7_splits_67 : decode cX7_splits 67 = .ok (.aload_n 0, 1) := by decide +kernel
theorem dX7_splits_68 : decode cX7_splits 68 = .ok (.iload 4, 2) := by decide +kernel
theorem dX7_splits_70 : decode cX7_splits 70 = .ok (.iconst 1, 1) := by decide +kernel
theorem dX7_splits_71 : decode cX7_splits 71 = .ok (.iadd, 1) := by decide +kernel
theorem dX7_splits_72 : decode cX7_splits 72 = .ok (.iconst 1, 1) := by decide +kernel
theorem dX7_splits_73 : decode cX7_splits 73 = .ok (.invokevirtual 60, 3) := by decide +kernel
theorem dX7_splits_76 : decode cX7_splits 76 = .ok (.aload_n 0, 1) := by decide +kernel
theorem dX7_splits_77 : decode cX7_splits 77 = .ok (.getfield 7, 3) := by decide +kernel
theorem dX7_splits_80 : decode cX7_splits 80 = .ok (.sipush 448, 3) := by decide +kernel
theorem dX7_splits_83 : decode cX7_splits 83 = .ok (.iload 4, 2) := by decide +kernel
theorem dX7_splits_85 : decode cX7_splits 85 = .ok (.iadd, 1) := by decide +kernel
theorem dX7_splits_86 : decode cX7_splits 86 = .ok (.iconst 1, 1) := by decide +kernel
theorem dX7_splits_87 : decode cX7_splits 87 = .ok (.iadd, 1) := by decide +kernel
theorem dX7_splits_88 : decode cX7_splits 88 = .ok (.iload_n 1, 1) := by decide +kernel
theorem dX7_splits_89 : decode cX7_splits 89 = .ok (.iastore, 1) := by decide +kernel
theorem dX7_splits_90 : decode cX7_splits 90 = .ok (.goto 16, 3) := by decide +kernel
theorem dX7_splits_93 : decode cX7_splits 93 = .ok (.aload_n 0, 1) := by decide +kernel
theorem dX7_splits_94 : decode cX7_splits 94 = .ok (.iload 5, 2) := by decide +kernel
theorem dX7_splits_96 : decode cX7_splits 96 = .ok (.iload 4, 2) := by decide +kernel
theorem dX7_splits_98 : decode cX7_splits 98 = .ok (.iconst 1, 1) := by decide +kernel
theorem dX7_splits_99 : decode cX7_splits 99 = .ok (.iadd, 1) := by decide +kernel
theorem dX7_splits_100 : decode cX7_splits 100 = .ok (.iload 5, 2) := by decide +kernel
theorem dX7_splits_102 : decode cX7_splits 102 = .ok (.isub, 1) := by decide +kernel
theorem dX7_splits_103 : decode cX7_splits 103 = .ok (.invokevirtual 60, 3) := by decide +kernel
theorem dX7_splits_106 : decode cX7_splits 106 = .ok (.aload_n 0, 1) := by decide +kernel
theorem dX7_splits_107 : decode cX7_splits 107 = .ok (.iload 4, 2) := by decide +kernel
theorem dX7_splits_109 : decode cX7_splits 109 = .ok (.iconst 1, 1) := by decide +kernel
theorem dX7_splits_110 : decode cX7_splits 110 = .ok (.iadd, 1) := by decide +kernel
theorem dX7_splits_111 : decode cX7_splits 111 = .ok (.invokevirtual 49, 3) := by decide +kernel
theorem dX7_splits_114 : decode cX7_splits 114 = .ok (.istore_n 3, 1) := by decide +kernel
theorem dX7_splits_115 : decode cX7_splits 115 = .ok (.iload_n 3, 1) := by decide +kernel
theorem dX7_splits_116 : decode cX7_splits 116 = .ok (.iconst 1, 1) := by decide +kernel
theorem dX7_splits_117 : decode cX7_splits 117 = .ok (.iadd, 1) := by decide +kernel
theorem dX7_splits_118 : decode cX7_splits 118 = .ok (.istore_n 2, 1) := by decide +kernel
theorem dX7_splits_119 : decode cX7_splits 119 = .ok (.goto (-117), 3) := by decide +kernel
theorem dX7_splits_122 : decode cX7_splits 122 = .ok (.return_, 1) := by decide +kernel
theorem lg_wsX7_fallsIn_0 : GoodIn wsX7_fallsIn ([.fieldLink RX7 7 "MolesLawnModel" "s" "[I", .methodLink RX7 49 yX7_endFrom, .instanceMethod yX7_endFrom, .selects RX7 yX7_endFrom yX7_endFrom, .initialized RX7, .code yX7_endFrom cX7_endFrom 3 (some .int), .methodLink RX7 56 yX7_find, .instanceMethod yX7_find, .selects RX7 yX7_find yX7_find, .code yX7_find cX7_find 7 (some .int), .methodLink RX7 53 yX7_tuftAt, .instanceMethod yX7_tuftAt, .selects RX7 yX7_tuftAt yX7_tuftAt, .code yX7_tuftAt cX7_tuftAt 2 (some .int), .methodLink RX7 60 yX7_shifts, .instanceMethod yX7_shifts, .selects RX7 yX7_shifts yX7_shifts, .code yX7_shifts cX7_shifts 4 none] : List Cond) := goodIn_sub (fun _ h => (List.mem_cons_of_mem _ (List.mem_append_left _ h))) (by decide +kernel)
theorem ls_wsX7_fallsIn_0 : GoodIn wsX7_fallsIn wsX70 := goodIn_sub (fun _ h => (List.mem_cons_of_mem _ (List.mem_append_right _ h))) (by decide +kernel)
set_option maxRecDepth 20000 in
theorem ggX7_fallsIn_X7_endFrom : GoodIn wsX7_fallsIn wsX7_endFrom := (gi_cons (lg_wsX7_fallsIn_0 _ (List.mem_of_getElem? (i := 5) rfl)) (goodIn_app (gi_cons (lg_wsX7_fallsIn_0 _ (List.mem_of_getElem? (i := 0) rfl)) gi_nil) ls_wsX7_fallsIn_0))
set_option maxRecDepth 20000 in
theorem gX7_fallsIn_X7_endFrom : GoodIn wsX7_fallsIn (wsV RX7 49 RX7 yX7_endFrom wsX7_endFrom) := goodIn_app (gi_cons (lg_wsX7_fallsIn_0 _ (List.mem_of_getElem? (i := 1) rfl)) (gi_cons (lg_wsX7_fallsIn_0 _ (List.mem_of_getElem? (i := 2) rfl)) (gi_cons (lg_wsX7_fallsIn_0 _ (List.mem_of_getElem? (i := 3) rfl)) (gi_cons (lg_wsX7_fallsIn_0 _ (List.mem_of_getElem? (i := 4) rfl)) gi_nil)))) ggX7_fallsIn_X7_endFrom
set_option maxRecDepth 20000 in
theorem ggX7_fallsIn_X7_find : GoodIn wsX7_fallsIn wsX7_find := (gi_cons (lg_wsX7_fallsIn_0 _ (List.mem_of_getElem? (i := 9) rfl)) (goodIn_app (gi_cons (lg_wsX7_fallsIn_0 _ (List.mem_of_getElem? (i := 10) rfl)) (gi_cons (lg_wsX7_fallsIn_0 _ (List.mem_of_getElem? (i := 11) rfl)) (gi_cons (lg_wsX7_fallsIn_0 _ (List.mem_of_getElem? (i := 12) rfl)) (gi_cons (lg_wsX7_fallsIn_0 _ (List.mem_of_getElem? (i := 4) rfl)) (gi_cons (lg_wsX7_fallsIn_0 _ (List.mem_of_getElem? (i := 13) rfl)) (gi_cons (lg_wsX7_fallsIn_0 _ (List.mem_of_getElem? (i := 0) rfl)) gi_nil)))))) ls_wsX7_fallsIn_0))
set_option maxRecDepth 20000 in
theorem gX7_fallsIn_X7_find : GoodIn wsX7_fallsIn (wsV RX7 56 RX7 yX7_find wsX7_find) := goodIn_app (gi_cons (lg_wsX7_fallsIn_0 _ (List.mem_of_getElem? (i := 6) rfl)) (gi_cons (lg_wsX7_fallsIn_0 _ (List.mem_of_getElem? (i := 7) rfl)) (gi_cons (lg_wsX7_fallsIn_0 _ (List.mem_of_getElem? (i := 8) rfl)) (gi_cons (lg_wsX7_fallsIn_0 _ (List.mem_of_getElem? (i := 4) rfl)) gi_nil)))) ggX7_fallsIn_X7_find
set_option maxRecDepth 20000 in
theorem ggX7_fallsIn_X7_shifts : GoodIn wsX7_fallsIn wsX7_shifts := (gi_cons (lg_wsX7_fallsIn_0 _ (List.mem_of_getElem? (i := 17) rfl)) (goodIn_app (gi_cons (lg_wsX7_fallsIn_0 _ (List.mem_of_getElem? (i := 0) rfl)) gi_nil) ls_wsX7_fallsIn_0))
set_option maxRecDepth 20000 in
theorem gX7_fallsIn_X7_shifts : GoodIn wsX7_fallsIn (wsV RX7 60 RX7 yX7_shifts wsX7_shifts) := goodIn_app (gi_cons (lg_wsX7_fallsIn_0 _ (List.mem_of_getElem? (i := 14) rfl)) (gi_cons (lg_wsX7_fallsIn_0 _ (List.mem_of_getElem? (i := 15) rfl)) (gi_cons (lg_wsX7_fallsIn_0 _ (List.mem_of_getElem? (i := 16) rfl)) (gi_cons (lg_wsX7_fallsIn_0 _ (List.mem_of_getElem? (i := 4) rfl)) gi_nil)))) ggX7_fallsIn_X7_shifts
theorem dX7_fallsIn_0 : decode cX7_fallsIn 0 = .ok (.iconst 0, 1) := by decide +kernel
theorem dX7_fallsIn_1 : decode cX7_fallsIn 1 = .ok (.istore_n 2, 1) := by decide +kernel
theorem dX7_fallsIn_2 : decode cX7_fallsIn 2 = .ok (.iconst 0, 1) := by decide +kernel
theorem dX7_fallsIn_3 : decode cX7_fallsIn 3 = .ok (.istore_n 3, 1) := by decide +kernel
theorem dX7_fallsIn_4 : decode cX7_fallsIn 4 = .ok (.iload_n 3, 1) := by decide +kernel
theorem dX7_fallsIn_5 : decode cX7_fallsIn 5 = .ok (.aload_n 0, 1) := by decide +kernel
theorem dX7_fallsIn_6 : decode cX7_fallsIn 6 = .ok (.getfield 7, 3) := by decide +kernel
theorem dX7_fallsIn_9 : decode cX7_fallsIn 9 = .ok (.bipush 7, 2) := by decide +kernel
theorem dX7_fallsIn_11 : decode cX7_fallsIn 11 = .ok (.iaload, 1) := by decide +kernel
theorem dX7_fallsIn_12 : decode cX7_fallsIn 12 = .ok (.if_icmp .ge 69, 3) := by decide +kernel
theorem dX7_fallsIn_15 : decode cX7_fallsIn 15 = .ok (.aload_n 0, 1) := by decide +kernel
theorem dX7_fallsIn_16 : decode cX7_fallsIn 16 = .ok (.iload_n 3, 1) := by decide +kernel
theorem dX7_fallsIn_17 : decode cX7_fallsIn 17 = .ok (.invokevirtual 49, 3) := by decide +kernel
theorem dX7_fallsIn_20 : decode cX7_fallsIn 20 = .ok (.istore 4, 2) := by decide +kernel
theorem dX7_fallsIn_22 : decode cX7_fallsIn 22 = .ok (.aload_n 0, 1) := by decide +kernel
theorem dX7_fallsIn_23 : decode cX7_fallsIn 23 = .ok (.iload_n 1, 1) := by decide +kernel
theorem dX7_fallsIn_24 : decode cX7_fallsIn 24 = .ok (.iload_n 3, 1) := by decide +kernel
theorem dX7_fallsIn_25 : decode cX7_fallsIn 25 = .ok (.iload 4, 2) := by decide +kernel
theorem dX7_fallsIn_27 : decode cX7_fallsIn 27 = .ok (.iconst 0, 1) := by decide +kernel
theorem dX7_fallsIn_28 : decode cX7_fallsIn 28 = .ok (.invokevirtual 56, 3) := by decide +kernel
theorem dX7_fallsIn_31 : decode cX7_fallsIn 31 = .ok (.iconst (-1), 1) := by decide +kernel
theorem dX7_fallsIn_32 : decode cX7_fallsIn 32 = .ok (.if_icmp .eq 7, 3) := by decide +kernel
theorem dX7_fallsIn_35 : decode cX7_fallsIn 35 = .ok (.iconst 1, 1) := by decide +kernel
theorem dX7_fallsIn_36 : decode cX7_fallsIn 36 = .ok (.goto 4, 3) := by decide +kernel
theorem dX7_fallsIn_39 : decode cX7_fallsIn 39 = .ok (.iconst 0, 1) := by decide +kernel
theorem dX7_fallsIn_40 : decode cX7_fallsIn 40 = .ok (.istore 5, 2) := by decide +kernel
theorem dX7_fallsIn_42 : decode cX7_fallsIn 42 = .ok (.iload 5, 2) := by decide +kernel
theorem dX7_fallsIn_44 : decode cX7_fallsIn 44 = .ok (.ifCond .eq 20, 3) := by decide +kernel
theorem dX7_fallsIn_47 : decode cX7_fallsIn 47 = .ok (.aload_n 0, 1) := by decide +kernel
theorem dX7_fallsIn_48 : decode cX7_fallsIn 48 = .ok (.iload 4, 2) := by decide +kernel
theorem dX7_fallsIn_50 : decode cX7_fallsIn 50 = .ok (.iconst 1, 1) := by decide +kernel
theorem dX7_fallsIn_51 : decode cX7_fallsIn 51 = .ok (.iadd, 1) := by decide +kernel
theorem dX7_fallsIn_52 : decode cX7_fallsIn 52 = .ok (.iload_n 3, 1) := by decide +kernel
theorem dX7_fallsIn_53 : decode cX7_fallsIn 53 = .ok (.iload 4, 2) := by decide +kernel
theorem dX7_fallsIn_55 : decode cX7_fallsIn 55 = .ok (.isub, 1) := by decide +kernel
theorem dX7_fallsIn_56 : decode cX7_fallsIn 56 = .ok (.iconst 1, 1) := by decide +kernel
theorem dX7_fallsIn_57 : decode cX7_fallsIn 57 = .ok (.isub, 1) := by decide +kernel
theorem dX7_fallsIn_58 : decode cX7_fallsIn 58 = .ok (.invokevirtual 60, 3) := by decide +kernel
theorem dX7_fallsIn_61 : decode cX7_fallsIn 61 = .ok (.iinc 2 1, 3) := by decide +kernel
theorem dX7_fallsIn_64 : decode cX7_fallsIn 64 = .ok (.iload 5, 2) := by decide +kernel
theorem dX7_fallsIn_66 : decode cX7_fallsIn 66 = .ok (.ifCond .eq 7, 3) := by decide +kernel
theorem dX7_fallsIn_69 : decode cX7_fallsIn 69 = .ok (.iload_n 3, 1) := by decide +kernel
theorem dX7_fallsIn_70 : decode cX7_fallsIn 70 = .ok (.goto 7, 3) := by decide +kernel
theorem dX7_fallsIn_73 : decode cX7_fallsIn 73 = .ok (.iload 4, 2) := by decide +kernel
theorem dX7_fallsIn_75 : decode cX7_fallsIn 75 = .ok (.iconst 1, 1) := by decide +kernel
theorem dX7_fallsIn_76 : decode cX7_fallsIn 76 = .ok (.iadd, 1) := by decide +kernel
theorem dX7_fallsIn_77 : decode cX7_fallsIn 77 = .ok (.istore_n 3, 1) := by decide +kernel
theorem dX7_fallsIn_78 : decode cX7_fallsIn 78 = .ok (.goto (-74), 3) := by decide +kernel
theorem dX7_fallsIn_81 : decode cX7_fallsIn 81 = .ok (.aload_n 0, 1) := by decide +kernel
theorem dX7_fallsIn_82 : decode cX7_fallsIn 82 = .ok (.getfield 7, 3) := by decide +kernel
theorem dX7_fallsIn_85 : decode cX7_fallsIn 85 = .ok (.iconst 5, 1) := by decide +kernel
theorem dX7_fallsIn_86 : decode cX7_fallsIn 86 = .ok (.dup2, 1) := by decide +kernel
theorem dX7_fallsIn_87 : decode cX7_fallsIn 87 = .ok (.iaload, 1) := by decide +kernel
theorem dX7_fallsIn_88 : decode cX7_fallsIn 88 = .ok (.iload_n 2, 1) := by decide +kernel
theorem dX7_fallsIn_89 : decode cX7_fallsIn 89 = .ok (.iadd, 1) := by decide +kernel
theorem dX7_fallsIn_90 : decode cX7_fallsIn 90 = .ok (.iastore, 1) := by decide +kernel
theorem dX7_fallsIn_91 : decode cX7_fallsIn 91 = .ok (.iload_n 2, 1) := by decide +kernel
theorem dX7_fallsIn_92 : decode cX7_fallsIn 92 = .ok (.ireturn, 1) := by decide +kernel
theorem lg_wsX7_inTrail_0 : GoodIn wsX7_inTrail ([.fieldLink RX7 7 "MolesLawnModel" "s" "[I", .methodLink RX7 64 yX7_of, .static yX7_of, .initialized RX7, .code yX7_of cX7_of 2 (some .int)] : List Cond) := goodIn_sub (fun _ h => (List.mem_cons_of_mem _ (List.mem_append_left _ h))) (by decide +kernel)
theorem ls_wsX7_inTrail_0 : GoodIn wsX7_inTrail wsX70 := goodIn_sub (fun _ h => (List.mem_cons_of_mem _ (List.mem_append_right _ h))) (by decide +kernel)
set_option maxRecDepth 20000 in
theorem ggX7_inTrail_X7_of : GoodIn wsX7_inTrail wsX7_of := (gi_cons (lg_wsX7_inTrail_0 _ (List.mem_of_getElem? (i := 4) rfl)) gi_nil)
set_option maxRecDepth 20000 in
theorem gX7_inTrail_X7_of : GoodIn wsX7_inTrail (va_wsS RX7 64 yX7_of wsX7_of) := goodIn_app (gi_cons (lg_wsX7_inTrail_0 _ (List.mem_of_getElem? (i := 1) rfl)) (gi_cons (lg_wsX7_inTrail_0 _ (List.mem_of_getElem? (i := 2) rfl)) (gi_cons (lg_wsX7_inTrail_0 _ (List.mem_of_getElem? (i := 3) rfl)) gi_nil))) ggX7_inTrail_X7_of
theorem dX7_inTrail_0 : decode cX7_inTrail 0 = .ok (.iconst (-1), 1) := by decide +kernel
theorem dX7_inTrail_1 : decode cX7_inTrail 1 = .ok (.istore 4, 2) := by decide +kernel
theorem dX7_inTrail_3 : decode cX7_inTrail 3 = .ok (.iconst 0, 1) := by decide +kernel
theorem dX7_inTrail_4 : decode cX7_inTrail 4 = .ok (.istore 5, 2) := by decide +kernel
theorem dX7_inTrail_6 : decode cX7_inTrail 6 = .ok (.iload 5, 2) := by decide +kernel
theorem dX7_inTrail_8 : decode cX7_inTrail 8 = .ok (.aload_n 0, 1) := by decide +kernel
theorem dX7_inTrail_9 : decode cX7_inTrail 9 = .ok (.getfield 7, 3) := by decide +kernel
theorem dX7_inTrail_12 : decode cX7_inTrail 12 = .ok (.iload_n 1, 1) := by decide +kernel
theorem dX7_inTrail_13 : decode cX7_inTrail 13 = .ok (.bipush 23, 2) := by decide +kernel
theorem dX7_inTrail_15 : decode cX7_inTrail 15 = .ok (.invokestatic 64, 3) := by decide +kernel
theorem dX7_inTrail_18 : decode cX7_inTrail 18 = .ok (.iaload, 1) := by decide +kernel
theorem dX7_inTrail_19 : decode cX7_inTrail 19 = .ok (.if_icmp .ge 46, 3) := by decide +kernel
theorem dX7_inTrail_22 : decode cX7_inTrail 22 = .ok (.aload_n 0, 1) := by decide +kernel
theorem dX7_inTrail_23 : decode cX7_inTrail 23 = .ok (.getfield 7, 3) := by decide +kernel
theorem dX7_inTrail_26 : decode cX7_inTrail 26 = .ok (.iload_n 1, 1) := by decide +kernel
theorem dX7_inTrail_27 : decode cX7_inTrail 27 = .ok (.bipush 24, 2) := by decide +kernel
theorem dX7_inTrail_29 : decode cX7_inTrail 29 = .ok (.iload 5, 2) := by decide +kernel
theorem dX7_inTrail_31 : decode cX7_inTrail 31 = .ok (.iadd, 1) := by decide +kernel
theorem dX7_inTrail_32 : decode cX7_inTrail 32 = .ok (.invokestatic 64, 3) := by decide +kernel
theorem dX7_inTrail_35 : decode cX7_inTrail 35 = .ok (.iaload, 1) := by decide +kernel
theorem dX7_inTrail_36 : decode cX7_inTrail 36 = .ok (.iload_n 2, 1) := by decide +kernel
theorem dX7_inTrail_37 : decode cX7_inTrail 37 = .ok (.if_icmp .ne 18, 3) := by decide +kernel
theorem dX7_inTrail_40 : decode cX7_inTrail 40 = .ok (.iload_n 3, 1) := by decide +kernel
theorem dX7_inTrail_41 : decode cX7_inTrail 41 = .ok (.ifCond .ne 9, 3) := by decide +kernel
theorem dX7_inTrail_44 : decode cX7_inTrail 44 = .ok (.iload 4, 2) := by decide +kernel
theorem dX7_inTrail_46 : decode cX7_inTrail 46 = .ok (.iconst (-1), 1) := by decide +kernel
theorem dX7_inTrail_47 : decode cX7_inTrail 47 = .ok (.if_icmp .ne 8, 3) := by decide +kernel
theorem dX7_inTrail_50 : decode cX7_inTrail 50 = .ok (.iload 5, 2) := by decide +kernel
theorem dX7_inTrail_52 : decode cX7_inTrail 52 = .ok (.goto 5, 3) := by decide +kernel
theorem dX7_inTrail_55 : decode cX7_inTrail 55 = .ok (.iload 4, 2) := by decide +kernel
theorem dX7_inTrail_57 : decode cX7_inTrail 57 = .ok (.istore 4, 2) := by decide +kernel
theorem dX7_inTrail_59 : decode cX7_inTrail 59 = .ok (.iinc 5 1, 3) := by decide +kernel
theorem dX7_inTrail_62 : decode cX7_inTrail 62 = .ok (.goto (-56), 3) := by decide +kernel
theorem dX7_inTrail_65 : decode cX7_inTrail 65 = .ok (.iload 4, 2) := by decide +kernel
theorem dX7_inTrail_67 : decode cX7_inTrail 67 = .ok (.ireturn, 1) := by decide +kernel
theorem lg_wsX7_digs_0 : GoodIn wsX7_digs ([.fieldLink RX7 7 "MolesLawnModel" "s" "[I", .methodLink RX7 64 yX7_of, .static yX7_of, .initialized RX7, .code yX7_of cX7_of 2 (some .int)] : List Cond) := goodIn_sub (fun _ h => (List.mem_cons_of_mem _ (List.mem_append_left _ h))) (by decide +kernel)
theorem ls_wsX7_digs_0 : GoodIn wsX7_digs wsX70 := goodIn_sub (fun _ h => (List.mem_cons_of_mem _ (List.mem_append_right _ h))) (by decide +kernel)
set_option maxRecDepth 20000 in
theorem ggX7_digs_X7_of : GoodIn wsX7_digs wsX7_of := (gi_cons (lg_wsX7_digs_0 _ (List.mem_of_getElem? (i := 4) rfl)) gi_nil)
set_option maxRecDepth 20000 in
theorem gX7_digs_X7_of : GoodIn wsX7_digs (va_wsS RX7 64 yX7_of wsX7_of) := goodIn_app (gi_cons (lg_wsX7_digs_0 _ (List.mem_of_getElem? (i := 1) rfl)) (gi_cons (lg_wsX7_digs_0 _ (List.mem_of_getElem? (i := 2) rfl)) (gi_cons (lg_wsX7_digs_0 _ (List.mem_of_getElem? (i := 3) rfl)) gi_nil))) ggX7_digs_X7_of
theorem dX7_digs_0 : decode cX7_digs 0 = .ok (.iconst 0, 1) := by decide +kernel
theorem dX7_digs_1 : decode cX7_digs 1 = .ok (.istore_n 3, 1) := by decide +kernel
theorem dX7_digs_2 : decode cX7_digs 2 = .ok (.iload_n 3, 1) := by decide +kernel
theorem dX7_digs_3 : decode cX7_digs 3 = .ok (.iload_n 2, 1) := by decide +kernel
theorem dX7_digs_4 : decode cX7_digs 4 = .ok (.if_icmp .gt 61, 3) := by decide +kernel
theorem dX7_digs_7 : decode cX7_digs 7 = .ok (.aload_n 0, 1) := by decide +kernel
theorem dX7_digs_8 : decode cX7_digs 8 = .ok (.getfield 7, 3) := by decide +kernel
theorem dX7_digs_11 : decode cX7_digs 11 = .ok (.sipush 448, 3) := by decide +kernel
theorem dX7_digs_14 : decode cX7_digs 14 = .ok (.aload_n 0, 1) := by decide +kernel
theorem dX7_digs_15 : decode cX7_digs 15 = .ok (.getfield 7, 3) := by decide +kernel
theorem dX7_digs_18 : decode cX7_digs 18 = .ok (.bipush 7, 2) := by decide +kernel
theorem dX7_digs_20 : decode cX7_digs 20 = .ok (.iaload, 1) := by decide +kernel
theorem dX7_digs_21 : decode cX7_digs 21 = .ok (.iadd, 1) := by decide +kernel
theorem dX7_digs_22 : decode cX7_digs 22 = .ok (.aload_n 0, 1) := by decide +kernel
theorem dX7_digs_23 : decode cX7_digs 23 = .ok (.getfield 7, 3) := by decide +kernel
theorem dX7_digs_26 : decode cX7_digs 26 = .ok (.iload_n 1, 1) := by decide +kernel
theorem dX7_digs_27 : decode cX7_digs 27 = .ok (.bipush 24, 2) := by decide +kernel
theorem dX7_digs_29 : decode cX7_digs 29 = .ok (.iload_n 3, 1) := by decide +kernel
theorem dX7_digs_30 : decode cX7_digs 30 = .ok (.iadd, 1) := by decide +kernel
theorem dX7_digs_31 : decode cX7_digs 31 = .ok (.invokestatic 64, 3) := by decide +kernel
theorem dX7_digs_34 : decode cX7_digs 34 = .ok (.iaload, 1) := by decide +kernel
theorem dX7_digs_35 : decode cX7_digs 35 = .ok (.iload_n 3, 1) := by decide +kernel
theorem dX7_digs_36 : decode cX7_digs 36 = .ok (.iload_n 2, 1) := by decide +kernel
theorem dX7_digs_37 : decode cX7_digs 37 = .ok (.if_icmp .ne 8, 3) := by decide +kernel
theorem dX7_digs_40 : decode cX7_digs 40 = .ok (.bipush 64, 2) := by decide +kernel
theorem dX7_digs_42 : decode cX7_digs 42 = .ok (.goto 4, 3) := by decide +kernel
theorem dX7_digs_45 : decode cX7_digs 45 = .ok (.iconst 0, 1) := by decide +kernel
theorem dX7_digs_46 : decode cX7_digs 46 = .ok (.iadd, 1) := by decide +kernel
theorem dX7_digs_47 : decode cX7_digs 47 = .ok (.iastore, 1) := by decide +kernel
theorem dX7_digs_48 : decode cX7_digs 48 = .ok (.aload_n 0, 1) := by decide +kernel
theorem dX7_digs_49 : decode cX7_digs 49 = .ok (.getfield 7, 3) := by decide +kernel
theorem dX7_digs_52 : decode cX7_digs 52 = .ok (.bipush 7, 2) := by decide +kernel
theorem dX7_digs_54 : decode cX7_digs 54 = .ok (.dup2, 1) := by decide +kernel
theorem dX7_digs_55 : decode cX7_digs 55 = .ok (.iaload, 1) := by decide +kernel
theorem dX7_digs_56 : decode cX7_digs 56 = .ok (.iconst 1, 1) := by decide +kernel
theorem dX7_digs_57 : decode cX7_digs 57 = .ok (.iadd, 1) := by decide +kernel
theorem dX7_digs_58 : decode cX7_digs 58 = .ok (.iastore, 1) := by decide +kernel
theorem dX7_digs_59 : decode cX7_digs 59 = .ok (.iinc 3 1, 3) := by decide +kernel
theorem dX7_digs_62 : decode cX7_digs 62 = .ok (.goto (-60), 3) := by decide +kernel
theorem dX7_digs_65 : decode cX7_digs 65 = .ok (.return_, 1) := by decide +kernel
theorem lg_wsX7_beginsTrail_0 : GoodIn wsX7_beginsTrail ([.fieldLink RX7 7 "MolesLawnModel" "s" "[I", .methodLink RX7 64 yX7_of, .static yX7_of, .initialized RX7, .code yX7_of cX7_of 2 (some .int)] : List Cond) := goodIn_sub (fun _ h => (List.mem_cons_of_mem _ (List.mem_append_left _ h))) (by decide +kernel)
theorem ls_wsX7_beginsTrail_0 : GoodIn wsX7_beginsTrail wsX70 := goodIn_sub (fun _ h => (List.mem_cons_of_mem _ (List.mem_append_right _ h))) (by decide +kernel)
set_option maxRecDepth 20000 in
theorem ggX7_beginsTrail_X7_of : GoodIn wsX7_beginsTrail wsX7_of := (gi_cons (lg_wsX7_beginsTrail_0 _ (List.mem_of_getElem? (i := 4) rfl)) gi_nil)
set_option maxRecDepth 20000 in
theorem gX7_beginsTrail_X7_of : GoodIn wsX7_beginsTrail (va_wsS RX7 64 yX7_of wsX7_of) := goodIn_app (gi_cons (lg_wsX7_beginsTrail_0 _ (List.mem_of_getElem? (i := 1) rfl)) (gi_cons (lg_wsX7_beginsTrail_0 _ (List.mem_of_getElem? (i := 2) rfl)) (gi_cons (lg_wsX7_beginsTrail_0 _ (List.mem_of_getElem? (i := 3) rfl)) gi_nil))) ggX7_beginsTrail_X7_of
theorem dX7_beginsTrail_0 : decode cX7_beginsTrail 0 = .ok (.aload_n 0, 1) := by decide +kernel
theorem dX7_beginsTrail_1 : decode cX7_beginsTrail 1 = .ok (.getfield 7, 3) := by decide +kernel
theorem dX7_beginsTrail_4 : decode cX7_beginsTrail 4 = .ok (.iload_n 1, 1) := by decide +kernel
theorem dX7_beginsTrail_5 : decode cX7_beginsTrail 5 = .ok (.bipush 23, 2) := by decide +kernel
theorem dX7_beginsTrail_7 : decode cX7_beginsTrail 7 = .ok (.invokestatic 64, 3) := by decide +kernel
theorem dX7_beginsTrail_10 : decode cX7_beginsTrail 10 = .ok (.iconst 1, 1) := by decide +kernel
theorem dX7_beginsTrail_11 : decode cX7_beginsTrail 11 = .ok (.iastore, 1) := by decide +kernel
theorem dX7_beginsTrail_12 : decode cX7_beginsTrail 12 = .ok (.aload_n 0, 1) := by decide +kernel
theorem dX7_beginsTrail_13 : decode cX7_beginsTrail 13 = .ok (.getfield 7, 3) := by decide +kernel
theorem dX7_beginsTrail_16 : decode cX7_beginsTrail 16 = .ok (.iload_n 1, 1) := by decide +kernel
theorem dX7_beginsTrail_17 : decode cX7_beginsTrail 17 = .ok (.bipush 24, 2) := by decide +kernel
theorem dX7_beginsTrail_19 : decode cX7_beginsTrail 19 = .ok (.invokestatic 64, 3) := by decide +kernel
theorem dX7_beginsTrail_22 : decode cX7_beginsTrail 22 = .ok (.aload_n 0, 1) := by decide +kernel
theorem dX7_beginsTrail_23 : decode cX7_beginsTrail 23 = .ok (.getfield 7, 3) := by decide +kernel
theorem dX7_beginsTrail_26 : decode cX7_beginsTrail 26 = .ok (.iload_n 1, 1) := by decide +kernel
theorem dX7_beginsTrail_27 : decode cX7_beginsTrail 27 = .ok (.iconst 0, 1) := by decide +kernel
theorem dX7_beginsTrail_28 : decode cX7_beginsTrail 28 = .ok (.invokestatic 64, 3) := by decide +kernel
theorem dX7_beginsTrail_31 : decode cX7_beginsTrail 31 = .ok (.iaload, 1) := by decide +kernel
theorem dX7_beginsTrail_32 : decode cX7_beginsTrail 32 = .ok (.iastore, 1) := by decide +kernel
theorem dX7_beginsTrail_33 : decode cX7_beginsTrail 33 = .ok (.aload_n 0, 1) := by decide +kernel
theorem dX7_beginsTrail_34 : decode cX7_beginsTrail 34 = .ok (.getfield 7, 3) := by decide +kernel
theorem dX7_beginsTrail_37 : decode cX7_beginsTrail 37 = .ok (.iload_n 1, 1) := by decide +kernel
theorem dX7_beginsTrail_38 : decode cX7_beginsTrail 38 = .ok (.iconst 1, 1) := by decide +kernel
theorem dX7_beginsTrail_39 : decode cX7_beginsTrail 39 = .ok (.invokestatic 64, 3) := by decide +kernel
theorem dX7_beginsTrail_42 : decode cX7_beginsTrail 42 = .ok (.aload_n 0, 1) := by decide +kernel
theorem dX7_beginsTrail_43 : decode cX7_beginsTrail 43 = .ok (.getfield 7, 3) := by decide +kernel
theorem dX7_beginsTrail_46 : decode cX7_beginsTrail 46 = .ok (.bipush 6, 2) := by decide +kernel
theorem dX7_beginsTrail_48 : decode cX7_beginsTrail 48 = .ok (.iaload, 1) := by decide +kernel
theorem dX7_beginsTrail_49 : decode cX7_beginsTrail 49 = .ok (.iastore, 1) := by decide +kernel
theorem dX7_beginsTrail_50 : decode cX7_beginsTrail 50 = .ok (.return_, 1) := by decide +kernel
theorem lg_wsX7_comesUp_0 : GoodIn wsX7_comesUp wsX7_comesUp_r1 := goodIn_sub (fun _ h => (List.mem_cons_of_mem _ (List.mem_append_left _ (List.mem_append_left _ h)))) (by decide +kernel)
theorem lg_wsX7_comesUp_1 : GoodIn wsX7_comesUp wsX7_comesUp_r2 := goodIn_sub (fun _ h => (List.mem_cons_of_mem _ (List.mem_append_left _ (List.mem_append_right _ h)))) (by decide +kernel)
theorem ls_wsX7_comesUp_0 : GoodIn wsX7_comesUp wsX70 := goodIn_sub (fun _ h => (List.mem_cons_of_mem _ (List.mem_append_right _ h))) (by decide +kernel)
set_option maxRecDepth 20000 in
theorem ggX7_comesUp_X7_splits : GoodIn wsX7_comesUp wsX7_splits := (gi_cons (lg_wsX7_comesUp_0 _ (List.mem_of_getElem? (i := 5) rfl)) (goodIn_app (gi_cons (lg_wsX7_comesUp_0 _ (List.mem_of_getElem? (i := 0) rfl)) (gi_cons (lg_wsX7_comesUp_0 _ (List.mem_of_getElem? (i := 6) rfl)) (gi_cons (lg_wsX7_comesUp_0 _ (List.mem_of_getElem? (i := 7) rfl)) (gi_cons (lg_wsX7_comesUp_0 _ (List.mem_of_getElem? (i := 8) rfl)) (gi_cons (lg_wsX7_comesUp_0 _ (List.mem_of_getElem? (i := 4) rfl)) (gi_cons (lg_wsX7_comesUp_0 _ (List.mem_of_getElem? (i := 9) rfl)) (gi_cons (lg_wsX7_comesUp_0 _ (List.mem_of_getElem? (i := 10) rfl)) (gi_cons (lg_wsX7_comesUp_0 _ (List.mem_of_getElem? (i := 11) rfl)) (gi_cons (lg_wsX7_comesUp_0 _ (List.mem_of_getElem? (i := 12) rfl)) (gi_cons (lg_wsX7_comesUp_0 _ (List.mem_of_getElem? (i := 13) rfl)) (gi_cons (lg_wsX7_comesUp_0 _ (List.mem_of_getElem? (i := 14) rfl)) (gi_cons (lg_wsX7_comesUp_0 _ (List.mem_of_getElem? (i := 15) rfl)) (gi_cons (lg_wsX7_comesUp_0 _ (List.mem_of_getElem? (i := 16) rfl)) (gi_cons (lg_wsX7_comesUp_0 _ (List.mem_of_getElem? (i := 17) rfl)) (gi_cons (lg_wsX7_comesUp_0 _ (List.mem_of_getElem? (i := 18) rfl)) (gi_cons (lg_wsX7_comesUp_0 _ (List.mem_of_getElem? (i := 19) rfl)) (gi_cons (lg_wsX7_comesUp_0 _ (List.mem_of_getElem? (i := 20) rfl)) (gi_cons (lg_wsX7_comesUp_0 _ (List.mem_of_getElem? (i := 21) rfl)) gi_nil)))))))))))))))))) ls_wsX7_comesUp_0))
set_option maxRecDepth 20000 in
theorem gX7_comesUp_X7_splits : GoodIn wsX7_comesUp (wsV RX7 68 RX7 yX7_splits wsX7_splits) := goodIn_app (gi_cons (lg_wsX7_comesUp_0 _ (List.mem_of_getElem? (i := 1) rfl)) (gi_cons (lg_wsX7_comesUp_0 _ (List.mem_of_getElem? (i := 2) rfl)) (gi_cons (lg_wsX7_comesUp_0 _ (List.mem_of_getElem? (i := 3) rfl)) (gi_cons (lg_wsX7_comesUp_0 _ (List.mem_of_getElem? (i := 4) rfl)) gi_nil)))) ggX7_comesUp_X7_splits
set_option maxRecDepth 20000 in
theorem ggX7_comesUp_X7_inTrail : GoodIn wsX7_comesUp wsX7_inTrail := (gi_cons (lg_wsX7_comesUp_1 _ (List.mem_of_getElem? (i := 1) rfl)) (goodIn_app (gi_cons (lg_wsX7_comesUp_0 _ (List.mem_of_getElem? (i := 0) rfl)) (gi_cons (lg_wsX7_comesUp_1 _ (List.mem_of_getElem? (i := 2) rfl)) (gi_cons (lg_wsX7_comesUp_1 _ (List.mem_of_getElem? (i := 3) rfl)) (gi_cons (lg_wsX7_comesUp_0 _ (List.mem_of_getElem? (i := 4) rfl)) (gi_cons (lg_wsX7_comesUp_1 _ (List.mem_of_getElem? (i := 4) rfl)) gi_nil))))) ls_wsX7_comesUp_0))
set_option maxRecDepth 20000 in
theorem gX7_comesUp_X7_inTrail : GoodIn wsX7_comesUp (wsV RX7 72 RX7 yX7_inTrail wsX7_inTrail) := goodIn_app (gi_cons (lg_wsX7_comesUp_0 _ (List.mem_of_getElem? (i := 22) rfl)) (gi_cons (lg_wsX7_comesUp_0 _ (List.mem_of_getElem? (i := 23) rfl)) (gi_cons (lg_wsX7_comesUp_1 _ (List.mem_of_getElem? (i := 0) rfl)) (gi_cons (lg_wsX7_comesUp_0 _ (List.mem_of_getElem? (i := 4) rfl)) gi_nil)))) ggX7_comesUp_X7_inTrail
set_option maxRecDepth 20000 in
theorem ggX7_comesUp_X7_digs : GoodIn wsX7_comesUp wsX7_digs := (gi_cons (lg_wsX7_comesUp_1 _ (List.mem_of_getElem? (i := 8) rfl)) (goodIn_app (gi_cons (lg_wsX7_comesUp_0 _ (List.mem_of_getElem? (i := 0) rfl)) (gi_cons (lg_wsX7_comesUp_1 _ (List.mem_of_getElem? (i := 2) rfl)) (gi_cons (lg_wsX7_comesUp_1 _ (List.mem_of_getElem? (i := 3) rfl)) (gi_cons (lg_wsX7_comesUp_0 _ (List.mem_of_getElem? (i := 4) rfl)) (gi_cons (lg_wsX7_comesUp_1 _ (List.mem_of_getElem? (i := 4) rfl)) gi_nil))))) ls_wsX7_comesUp_0))
set_option maxRecDepth 20000 in
theorem gX7_comesUp_X7_digs : GoodIn wsX7_comesUp (wsV RX7 76 RX7 yX7_digs wsX7_digs) := goodIn_app (gi_cons (lg_wsX7_comesUp_1 _ (List.mem_of_getElem? (i := 5) rfl)) (gi_cons (lg_wsX7_comesUp_1 _ (List.mem_of_getElem? (i := 6) rfl)) (gi_cons (lg_wsX7_comesUp_1 _ (List.mem_of_getElem? (i := 7) rfl)) (gi_cons (lg_wsX7_comesUp_0 _ (List.mem_of_getElem? (i := 4) rfl)) gi_nil)))) ggX7_comesUp_X7_digs
set_option maxRecDepth 20000 in
theorem ggX7_comesUp_X7_of : GoodIn wsX7_comesUp wsX7_of := (gi_cons (lg_wsX7_comesUp_1 _ (List.mem_of_getElem? (i := 4) rfl)) gi_nil)
set_option maxRecDepth 20000 in
theorem gX7_comesUp_X7_of : GoodIn wsX7_comesUp (va_wsS RX7 64 yX7_of wsX7_of) := goodIn_app (gi_cons (lg_wsX7_comesUp_1 _ (List.mem_of_getElem? (i := 2) rfl)) (gi_cons (lg_wsX7_comesUp_1 _ (List.mem_of_getElem? (i := 3) rfl)) (gi_cons (lg_wsX7_comesUp_0 _ (List.mem_of_getElem? (i := 4) rfl)) gi_nil))) ggX7_comesUp_X7_of
theorem dX7_comesUp_0 : decode cX7_comesUp 0 = .ok (.aload_n 0, 1) := by decide +kernel
theorem dX7_comesUp_1 : decode cX7_comesUp 1 = .ok (.getfield 7, 3) := by decide +kernel
theorem dX7_comesUp_4 : decode cX7_comesUp 4 = .ok (.bipush 8, 2) := by decide +kernel
theorem dX7_comesUp_6 : decode cX7_comesUp 6 = .ok (.iload_n 1, 1) := by decide +kernel
theorem dX7_comesUp_7 : decode cX7_comesUp 7 = .ok (.iadd, 1) := by decide +kernel
theorem dX7_comesUp_8 : decode cX7_comesUp 8 = .ok (.iconst 1, 1) := by decide +kernel
theorem dX7_comesUp_9 : decode cX7_comesUp 9 = .ok (.iastore, 1) := by decide +kernel
theorem dX7_comesUp_10 : decode cX7_comesUp 10 = .ok (.aload_n 0, 1) := by decide +kernel
theorem dX7_comesUp_11 : decode cX7_comesUp 11 = .ok (.getfield 7, 3) := by decide +kernel
theorem dX7_comesUp_14 : decode cX7_comesUp 14 = .ok (.iconst 4, 1) := by decide +kernel
theorem dX7_comesUp_15 : decode cX7_comesUp 15 = .ok (.dup2, 1) := by decide +kernel
theorem dX7_comesUp_16 : decode cX7_comesUp 16 = .ok (.iaload, 1) := by decide +kernel
theorem dX7_comesUp_17 : decode cX7_comesUp 17 = .ok (.iconst 1, 1) := by decide +kernel
theorem dX7_comesUp_18 : decode cX7_comesUp 18 = .ok (.iadd, 1) := by decide +kernel
theorem dX7_comesUp_19 : decode cX7_comesUp 19 = .ok (.iastore, 1) := by decide +kernel
theorem dX7_comesUp_20 : decode cX7_comesUp 20 = .ok (.aload_n 0, 1) := by decide +kernel
theorem dX7_comesUp_21 : decode cX7_comesUp 21 = .ok (.iload_n 1, 1) := by decide +kernel
theorem dX7_comesUp_22 : decode cX7_comesUp 22 = .ok (.invokevirtual 68, 3) := by decide +kernel
theorem dX7_comesUp_25 : decode cX7_comesUp 25 = .ok (.iconst 0, 1) := by decide +kernel
theorem dX7_comesUp_26 : decode cX7_comesUp 26 = .ok (.istore_n 2, 1) := by decide +kernel
theorem dX7_comesUp_27 : decode cX7_comesUp 27 = .ok (.iload_n 2, 1) := by decide +kernel
theorem dX7_comesUp_28 : decode cX7_comesUp 28 = .ok (.aload_n 0, 1) := by decide +kernel
theorem dX7_comesUp_29 : decode cX7_comesUp 29 = .ok (.getfield 7, 3) := by decide +kernel
theorem dX7_comesUp_32 : decode cX7_comesUp 32 = .ok (.iconst 1, 1) := by decide +kernel
theorem dX7_comesUp_33 : decode cX7_comesUp 33 = .ok (.iaload, 1) := by decide +kernel
theorem dX7_comesUp_34 : decode cX7_comesUp 34 = .ok (.if_icmp .ge 108, 3) := by decide +kernel
theorem dX7_comesUp_37 : decode cX7_comesUp 37 = .ok (.aload_n 0, 1) := by decide +kernel
theorem dX7_comesUp_38 : decode cX7_comesUp 38 = .ok (.iload_n 2, 1) := by decide +kernel
theorem dX7_comesUp_39 : decode cX7_comesUp 39 = .ok (.iload_n 1, 1) := by decide +kernel
theorem dX7_comesUp_40 : decode cX7_comesUp 40 = .ok (.iconst 0, 1) := by decide +kernel
theorem dX7_comesUp_41 : decode cX7_comesUp 41 = .ok (.invokevirtual 72, 3) := by decide +kernel
theorem dX7_comesUp_44 : decode cX7_comesUp 44 = .ok (.istore_n 3, 1) := by decide +kernel
theorem dX7_comesUp_45 : decode cX7_comesUp 45 = .ok (.iload_n 3, 1) := by decide +kernel
theorem dX7_comesUp_46 : decode cX7_comesUp 46 = .ok (.ifCond .le 90, 3) := by decide +kernel
theorem dX7_comesUp_49 : decode cX7_comesUp 49 = .ok (.aload_n 0, 1) := by decide +kernel
theorem dX7_comesUp_50 : decode cX7_comesUp 50 = .ok (.iload_n 2, 1) := by decide +kernel
theorem dX7_comesUp_51 : decode cX7_comesUp 51 = .ok (.iload_n 1, 1) := by decide +kernel
theorem dX7_comesUp_52 : decode cX7_comesUp 52 = .ok (.iconst 1, 1) := by decide +kernel
theorem dX7_comesUp_53 : decode cX7_comesUp 53 = .ok (.invokevirtual 72, 3) := by decide +kernel
theorem dX7_comesUp_56 : decode cX7_comesUp 56 = .ok (.istore 4, 2) := by decide +kernel
theorem dX7_comesUp_58 : decode cX7_comesUp 58 = .ok (.aload_n 0, 1) := by decide +kernel
theorem dX7_comesUp_59 : decode cX7_comesUp 59 = .ok (.iload_n 2, 1) := by decide +kernel
theorem dX7_comesUp_60 : decode cX7_comesUp 60 = .ok (.iload_n 3, 1) := by decide +kernel
theorem dX7_comesUp_61 : decode cX7_comesUp 61 = .ok (.invokevirtual 76, 3) := by decide +kernel
theorem dX7_comesUp_64 : decode cX7_comesUp 64 = .ok (.aload_n 0, 1) := by decide +kernel
theorem dX7_comesUp_65 : decode cX7_comesUp 65 = .ok (.getfield 7, 3) := by decide +kernel
theorem dX7_comesUp_68 : decode cX7_comesUp 68 = .ok (.iload_n 2, 1) := by decide +kernel
theorem dX7_comesUp_69 : decode cX7_comesUp 69 = .ok (.bipush 23, 2) := by decide +kernel
theorem dX7_comesUp_71 : decode cX7_comesUp 71 = .ok (.invokestatic 64, 3) := by decide +kernel
theorem dX7_comesUp_74 : decode cX7_comesUp 74 = .ok (.dup2, 1) := by decide +kernel
theorem dX7_comesUp_75 : decode cX7_comesUp 75 = .ok (.iaload, 1) := by decide +kernel
theorem dX7_comesUp_76 : decode cX7_comesUp 76 = .ok (.iload 4, 2) := by decide +kernel
theorem dX7_comesUp_78 : decode cX7_comesUp 78 = .ok (.isub, 1) := by decide +kernel
theorem dX7_comesUp_79 : decode cX7_comesUp 79 = .ok (.iastore, 1) := by decide +kernel
theorem dX7_comesUp_80 : decode cX7_comesUp 80 = .ok (.iconst 0, 1) := by decide +kernel
theorem dX7_comesUp_81 : decode cX7_comesUp 81 = .ok (.istore 5, 2) := by decide +kernel
theorem dX7_comesUp_83 : decode cX7_comesUp 83 = .ok (.iload 5, 2) := by decide +kernel
theorem dX7_comesUp_85 : decode cX7_comesUp 85 = .ok (.aload_n 0, 1) := by decide +kernel
theorem dX7_comesUp_86 : decode cX7_comesUp 86 = .ok (.getfield 7, 3) := by decide +kernel
theorem dX7_comesUp_89 : decode cX7_comesUp 89 = .ok (.iload_n 2, 1) := by decide +kernel
theorem dX7_comesUp_90 : decode cX7_comesUp 90 = .ok (.bipush 23, 2) := by decide +kernel
theorem dX7_comesUp_92 : decode cX7_comesUp 92 = .ok (.invokestatic 64, 3) := by decide +kernel
theorem dX7_comesUp_95 : decode cX7_comesUp 95 = .ok (.iaload, 1) := by decide +kernel
theorem dX7_comesUp_96 : decode cX7_comesUp 96 = .ok (.if_icmp .ge 40, 3) := by decide +kernel
theorem dX7_comesUp_99 : decode cX7_comesUp 99 = .ok (.aload_n 0, 1) := by decide +kernel
theorem dX7_comesUp_100 : decode cX7_comesUp 100 = .ok (.getfield 7, 3) := by decide +kernel
theorem dX7_comesUp_103 : decode cX7_comesUp 103 = .ok (.iload_n 2, 1) := by decide +kernel
theorem dX7_comesUp_104 : decode cX7_comesUp 104 = .ok (.bipush 24, 2) := by decide +kernel
theorem dX7_comesUp_106 : decode cX7_comesUp 106 = .ok (.iload 5, 2) := by decide +kernel
theorem dX7_comesUp_108 : decode cX7_comesUp 108 = .ok (.iadd, 1) := by decide +kernel
theorem dX7_comesUp_109 : decode cX7_comesUp 109 = .ok (.invokestatic 64, 3) := by decide +kernel
theorem dX7_comesUp_112 : decode cX7_comesUp 112 = .ok (.aload_n 0, 1) := by decide +kernel
theorem dX7_comesUp_113 : decode cX7_comesUp 113 = .ok (.getfield 7, 3) := by decide +kernel
theorem dX7_comesUp_116 : decode cX7_comesUp 116 = .ok (.iload_n 2, 1) := by decide +kernel
theorem dX7_comesUp_117 : decode cX7_comesUp 117 = .ok (.bipush 24, 2) := by decide +kernel
theorem dX7_comesUp_119 : decode cX7_comesUp 119 = .ok (.iload 5, 2) := by decide +kernel
theorem dX7_comesUp_121 : decode cX7_comesUp 121 = .ok (.iadd, 1) := by decide +kernel
theorem dX7_comesUp_122 : decode cX7_comesUp 122 = .ok (.iload 4, 2) := by decide +kernel
theorem dX7_comesUp_124 : decode cX7_comesUp 124 = .ok (.iadd, 1) := by decide +kernel
theorem dX7_comesUp_125 : decode cX7_comesUp 125 = .ok (.invokestatic 64, 3) := by decide +kernel
theorem dX7_comesUp_128 : decode cX7_comesUp 128 = .ok (.iaload, 1) := by decide +kernel
theorem dX7_comesUp_129 : decode cX7_comesUp 129 = .ok (.iastore, 1) := by decide +kernel
theorem dX7_comesUp_130 : decode cX7_comesUp 130 = .ok (.iinc 5 1, 3) := by decide +kernel
theorem dX7_comesUp_133 : decode cX7_comesUp 133 = .ok (.goto (-50), 3) := by decide +kernel
theorem dX7_comesUp_136 : decode cX7_comesUp 136 = .ok (.iinc 2 1, 3) := by decide +kernel
theorem dX7_comesUp_139 : decode cX7_comesUp 139 = .ok (.goto (-112), 3) := by decide +kernel
theorem dX7_comesUp_142 : decode cX7_comesUp 142 = .ok (.return_, 1) := by decide +kernel
theorem lg_wsX7_finishes_0 : GoodIn wsX7_finishes ([.fieldLink RX7 7 "MolesLawnModel" "s" "[I", .methodLink RX7 64 yX7_of, .static yX7_of, .initialized RX7, .code yX7_of cX7_of 2 (some .int), .methodLink RX7 72 yX7_inTrail, .instanceMethod yX7_inTrail, .selects RX7 yX7_inTrail yX7_inTrail, .code yX7_inTrail cX7_inTrail 6 (some .int), .methodLink RX7 76 yX7_digs, .instanceMethod yX7_digs, .selects RX7 yX7_digs yX7_digs, .code yX7_digs cX7_digs 4 none, .methodLink RX7 79 yX7_beginsTrail, .instanceMethod yX7_beginsTrail, .selects RX7 yX7_beginsTrail yX7_beginsTrail, .code yX7_beginsTrail cX7_beginsTrail 2 none] : List Cond) := goodIn_sub (fun _ h => (List.mem_cons_of_mem _ (List.mem_append_left _ h))) (by decide +kernel)
theorem ls_wsX7_finishes_0 : GoodIn wsX7_finishes wsX70 := goodIn_sub (fun _ h => (List.mem_cons_of_mem _ (List.mem_append_right _ h))) (by decide +kernel)
set_option maxRecDepth 20000 in
theorem ggX7_finishes_X7_of : GoodIn wsX7_finishes wsX7_of := (gi_cons (lg_wsX7_finishes_0 _ (List.mem_of_getElem? (i := 4) rfl)) gi_nil)
set_option maxRecDepth 20000 in
theorem gX7_finishes_X7_of : GoodIn wsX7_finishes (va_wsS RX7 64 yX7_of wsX7_of) := goodIn_app (gi_cons (lg_wsX7_finishes_0 _ (List.mem_of_getElem? (i := 1) rfl)) (gi_cons (lg_wsX7_finishes_0 _ (List.mem_of_getElem? (i := 2) rfl)) (gi_cons (lg_wsX7_finishes_0 _ (List.mem_of_getElem? (i := 3) rfl)) gi_nil))) ggX7_finishes_X7_of
set_option maxRecDepth 20000 in
theorem ggX7_finishes_X7_inTrail : GoodIn wsX7_finishes wsX7_inTrail := (gi_cons (lg_wsX7_finishes_0 _ (List.mem_of_getElem? (i := 8) rfl)) (goodIn_app (gi_cons (lg_wsX7_finishes_0 _ (List.mem_of_getElem? (i := 0) rfl)) (gi_cons (lg_wsX7_finishes_0 _ (List.mem_of_getElem? (i := 1) rfl)) (gi_cons (lg_wsX7_finishes_0 _ (List.mem_of_getElem? (i := 2) rfl)) (gi_cons (lg_wsX7_finishes_0 _ (List.mem_of_getElem? (i := 3) rfl)) (gi_cons (lg_wsX7_finishes_0 _ (List.mem_of_getElem? (i := 4) rfl)) gi_nil))))) ls_wsX7_finishes_0))
set_option maxRecDepth 20000 in
theorem gX7_finishes_X7_inTrail : GoodIn wsX7_finishes (wsV RX7 72 RX7 yX7_inTrail wsX7_inTrail) := goodIn_app (gi_cons (lg_wsX7_finishes_0 _ (List.mem_of_getElem? (i := 5) rfl)) (gi_cons (lg_wsX7_finishes_0 _ (List.mem_of_getElem? (i := 6) rfl)) (gi_cons (lg_wsX7_finishes_0 _ (List.mem_of_getElem? (i := 7) rfl)) (gi_cons (lg_wsX7_finishes_0 _ (List.mem_of_getElem? (i := 3) rfl)) gi_nil)))) ggX7_finishes_X7_inTrail
set_option maxRecDepth 20000 in
theorem ggX7_finishes_X7_digs : GoodIn wsX7_finishes wsX7_digs := (gi_cons (lg_wsX7_finishes_0 _ (List.mem_of_getElem? (i := 12) rfl)) (goodIn_app (gi_cons (lg_wsX7_finishes_0 _ (List.mem_of_getElem? (i := 0) rfl)) (gi_cons (lg_wsX7_finishes_0 _ (List.mem_of_getElem? (i := 1) rfl)) (gi_cons (lg_wsX7_finishes_0 _ (List.mem_of_getElem? (i := 2) rfl)) (gi_cons (lg_wsX7_finishes_0 _ (List.mem_of_getElem? (i := 3) rfl)) (gi_cons (lg_wsX7_finishes_0 _ (List.mem_of_getElem? (i := 4) rfl)) gi_nil))))) ls_wsX7_finishes_0))
set_option maxRecDepth 20000 in
theorem gX7_finishes_X7_digs : GoodIn wsX7_finishes (wsV RX7 76 RX7 yX7_digs wsX7_digs) := goodIn_app (gi_cons (lg_wsX7_finishes_0 _ (List.mem_of_getElem? (i := 9) rfl)) (gi_cons (lg_wsX7_finishes_0 _ (List.mem_of_getElem? (i := 10) rfl)) (gi_cons (lg_wsX7_finishes_0 _ (List.mem_of_getElem? (i := 11) rfl)) (gi_cons (lg_wsX7_finishes_0 _ (List.mem_of_getElem? (i := 3) rfl)) gi_nil)))) ggX7_finishes_X7_digs
set_option maxRecDepth 20000 in
theorem ggX7_finishes_X7_beginsTrail : GoodIn wsX7_finishes wsX7_beginsTrail := (gi_cons (lg_wsX7_finishes_0 _ (List.mem_of_getElem? (i := 16) rfl)) (goodIn_app (gi_cons (lg_wsX7_finishes_0 _ (List.mem_of_getElem? (i := 0) rfl)) (gi_cons (lg_wsX7_finishes_0 _ (List.mem_of_getElem? (i := 1) rfl)) (gi_cons (lg_wsX7_finishes_0 _ (List.mem_of_getElem? (i := 2) rfl)) (gi_cons (lg_wsX7_finishes_0 _ (List.mem_of_getElem? (i := 3) rfl)) (gi_cons (lg_wsX7_finishes_0 _ (List.mem_of_getElem? (i := 4) rfl)) gi_nil))))) ls_wsX7_finishes_0))
set_option maxRecDepth 20000 in
theorem gX7_finishes_X7_beginsTrail : GoodIn wsX7_finishes (wsV RX7 79 RX7 yX7_beginsTrail wsX7_beginsTrail) := goodIn_app (gi_cons (lg_wsX7_finishes_0 _ (List.mem_of_getElem? (i := 13) rfl)) (gi_cons (lg_wsX7_finishes_0 _ (List.mem_of_getElem? (i := 14) rfl)) (gi_cons (lg_wsX7_finishes_0 _ (List.mem_of_getElem? (i := 15) rfl)) (gi_cons (lg_wsX7_finishes_0 _ (List.mem_of_getElem? (i := 3) rfl)) gi_nil)))) ggX7_finishes_X7_beginsTrail
theorem dX7_finishes_0 : decode cX7_finishes 0 = .ok (.aload_n 0, 1) := by decide +kernel
theorem dX7_finishes_1 : decode cX7_finishes 1 = .ok (.getfield 7, 3) := by decide +kernel
theorem dX7_finishes_4 : decode cX7_finishes 4 = .ok (.iload_n 1, 1) := by decide +kernel
theorem dX7_finishes_5 : decode cX7_finishes 5 = .ok (.iconst 0, 1) := by decide +kernel
theorem dX7_finishes_6 : decode cX7_finishes 6 = .ok (.invokestatic 64, 3) := by decide +kernel
theorem dX7_finishes_9 : decode cX7_finishes 9 = .ok (.iaload, 1) := by decide +kernel
theorem dX7_finishes_10 : decode cX7_finishes 10 = .ok (.istore_n 2, 1) := by decide +kernel
theorem dX7_finishes_11 : decode cX7_finishes 11 = .ok (.aload_n 0, 1) := by decide +kernel
theorem dX7_finishes_12 : decode cX7_finishes 12 = .ok (.iload_n 1, 1) := by decide +kernel
theorem dX7_finishes_13 : decode cX7_finishes 13 = .ok (.iload_n 2, 1) := by decide +kernel
theorem dX7_finishes_14 : decode cX7_finishes 14 = .ok (.iconst 0, 1) := by decide +kernel
theorem dX7_finishes_15 : decode cX7_finishes 15 = .ok (.invokevirtual 72, 3) := by decide +kernel
theorem dX7_finishes_18 : decode cX7_finishes 18 = .ok (.istore_n 3, 1) := by decide +kernel
theorem dX7_finishes_19 : decode cX7_finishes 19 = .ok (.iload_n 3, 1) := by decide +kernel
theorem dX7_finishes_20 : decode cX7_finishes 20 = .ok (.ifCond .le 9, 3) := by decide +kernel
theorem dX7_finishes_23 : decode cX7_finishes 23 = .ok (.aload_n 0, 1) := by decide +kernel
theorem dX7_finishes_24 : decode cX7_finishes 24 = .ok (.iload_n 1, 1) := by decide +kernel
theorem dX7_finishes_25 : decode cX7_finishes 25 = .ok (.iload_n 3, 1) := by decide +kernel
theorem dX7_finishes_26 : decode cX7_finishes 26 = .ok (.invokevirtual 76, 3) := by decide +kernel
theorem dX7_finishes_29 : decode cX7_finishes 29 = .ok (.aload_n 0, 1) := by decide +kernel
theorem dX7_finishes_30 : decode cX7_finishes 30 = .ok (.iload_n 1, 1) := by decide +kernel
theorem dX7_finishes_31 : decode cX7_finishes 31 = .ok (.invokevirtual 79, 3) := by decide +kernel
theorem dX7_finishes_34 : decode cX7_finishes 34 = .ok (.return_, 1) := by decide +kernel
theorem lg_wsX7_isCaught_0 : GoodIn wsX7_isCaught ([.fieldLink RX7 7 "MolesLawnModel" "s" "[I", .methodLink RX7 64 yX7_of, .static yX7_of, .initialized RX7, .code yX7_of cX7_of 2 (some .int)] : List Cond) := goodIn_sub (fun _ h => (List.mem_cons_of_mem _ (List.mem_append_left _ h))) (by decide +kernel)
theorem ls_wsX7_isCaught_0 : GoodIn wsX7_isCaught wsX70 := goodIn_sub (fun _ h => (List.mem_cons_of_mem _ (List.mem_append_right _ h))) (by decide +kernel)
set_option maxRecDepth 20000 in
theorem ggX7_isCaught_X7_of : GoodIn wsX7_isCaught wsX7_of := (gi_cons (lg_wsX7_isCaught_0 _ (List.mem_of_getElem? (i := 4) rfl)) gi_nil)
set_option maxRecDepth 20000 in
theorem gX7_isCaught_X7_of : GoodIn wsX7_isCaught (va_wsS RX7 64 yX7_of wsX7_of) := goodIn_app (gi_cons (lg_wsX7_isCaught_0 _ (List.mem_of_getElem? (i := 1) rfl)) (gi_cons (lg_wsX7_isCaught_0 _ (List.mem_of_getElem? (i := 2) rfl)) (gi_cons (lg_wsX7_isCaught_0 _ (List.mem_of_getElem? (i := 3) rfl)) gi_nil))) ggX7_isCaught_X7_of
theorem dX7_isCaught_0 : decode cX7_isCaught 0 = .ok (.aload_n 0, 1) := by decide +kernel
theorem dX7_isCaught_1 : decode cX7_isCaught 1 = .ok (.getfield 7, 3) := by decide +kernel
theorem dX7_isCaught_4 : decode cX7_isCaught 4 = .ok (.iconst 1, 1) := by decide +kernel
theorem dX7_isCaught_5 : decode cX7_isCaught 5 = .ok (.dup2, 1) := by decide +kernel
theorem dX7_isCaught_6 : decode cX7_isCaught 6 = .ok (.iaload, 1) := by decide +kernel
theorem dX7_isCaught_7 : decode cX7_isCaught 7 = .ok (.iconst 1, 1) := by decide +kernel
theorem dX7_isCaught_8 : decode cX7_isCaught 8 = .ok (.isub, 1) := by decide +kernel
theorem dX7_isCaught_9 : decode cX7_isCaught 9 = .ok (.iastore, 1) := by decide +kernel
theorem dX7_isCaught_10 : decode cX7_isCaught 10 = .ok (.aload_n 0, 1) := by decide +kernel
theorem dX7_isCaught_11 : decode cX7_isCaught 11 = .ok (.getfield 7, 3) := by decide +kernel
theorem dX7_isCaught_14 : decode cX7_isCaught 14 = .ok (.iconst 2, 1) := by decide +kernel
theorem dX7_isCaught_15 : decode cX7_isCaught 15 = .ok (.dup2, 1) := by decide +kernel
theorem dX7_isCaught_16 : decode cX7_isCaught 16 = .ok (.iaload, 1) := by decide +kernel
theorem dX7_isCaught_17 : decode cX7_isCaught 17 = .ok (.iconst 1, 1) := by decide +kernel
theorem dX7_isCaught_18 : decode cX7_isCaught 18 = .ok (.iadd, 1) := by decide +kernel
theorem dX7_isCaught_19 : decode cX7_isCaught 19 = .ok (.iastore, 1) := by decide +kernel
theorem dX7_isCaught_20 : decode cX7_isCaught 20 = .ok (.iload_n 1, 1) := by decide +kernel
theorem dX7_isCaught_21 : decode cX7_isCaught 21 = .ok (.iconst 0, 1) := by decide +kernel
theorem dX7_isCaught_22 : decode cX7_isCaught 22 = .ok (.invokestatic 64, 3) := by decide +kernel
theorem dX7_isCaught_25 : decode cX7_isCaught 25 = .ok (.istore_n 2, 1) := by decide +kernel
theorem dX7_isCaught_26 : decode cX7_isCaught 26 = .ok (.iload_n 2, 1) := by decide +kernel
theorem dX7_isCaught_27 : decode cX7_isCaught 27 = .ok (.aload_n 0, 1) := by decide +kernel
theorem dX7_isCaught_28 : decode cX7_isCaught 28 = .ok (.getfield 7, 3) := by decide +kernel
theorem dX7_isCaught_31 : decode cX7_isCaught 31 = .ok (.iconst 1, 1) := by decide +kernel
theorem dX7_isCaught_32 : decode cX7_isCaught 32 = .ok (.iaload, 1) := by decide +kernel
theorem dX7_isCaught_33 : decode cX7_isCaught 33 = .ok (.iconst 0, 1) := by decide +kernel
theorem dX7_isCaught_34 : decode cX7_isCaught 34 = .ok (.invokestatic 64, 3) := by decide +kernel
theorem dX7_isCaught_37 : decode cX7_isCaught 37 = .ok (.if_icmp .ge 24, 3) := by decide +kernel
theorem dX7_isCaught_40 : decode cX7_isCaught 40 = .ok (.aload_n 0, 1) := by decide +kernel
theorem dX7_isCaught_41 : decode cX7_isCaught 41 = .ok (.getfield 7, 3) := by decide +kernel
theorem dX7_isCaught_44 : decode cX7_isCaught 44 = .ok (.iload_n 2, 1) := by decide +kernel
theorem dX7_isCaught_45 : decode cX7_isCaught 45 = .ok (.aload_n 0, 1) := by decide +kernel
theorem dX7_isCaught_46 : decode cX7_isCaught 46 = .ok (.getfield 7, 3) := by decide +kernel
theorem dX7_isCaught_49 : decode cX7_isCaught 49 = .ok (.iload_n 2, 1) := by decide +kernel
theorem dX7_isCaught_50 : decode cX7_isCaught 50 = .ok (.bipush 46, 2) := by decide +kernel
theorem dX7_isCaught_52 : decode cX7_isCaught 52 = .ok (.iadd, 1) := by decide +kernel
theorem dX7_isCaught_53 : decode cX7_isCaught 53 = .ok (.iaload, 1) := by decide +kernel
theorem dX7_isCaught_54 : decode cX7_isCaught 54 = .ok (.iastore, 1) := by decide +kernel
theorem dX7_isCaught_55 : decode cX7_isCaught 55 = .ok (.iinc 2 1, 3) := by decide +kernel
theorem dX7_isCaught_58 : decode cX7_isCaught 58 = .ok (.goto (-32), 3) := by decide +kernel
theorem dX7_isCaught_61 : decode cX7_isCaught 61 = .ok (.iconst 0, 1) := by decide +kernel
theorem dX7_isCaught_62 : decode cX7_isCaught 62 = .ok (.istore_n 2, 1) := by decide +kernel
theorem dX7_isCaught_63 : decode cX7_isCaught 63 = .ok (.iload_n 2, 1) := by decide +kernel
theorem dX7_isCaught_64 : decode cX7_isCaught 64 = .ok (.bipush 46, 2) := by decide +kernel
theorem dX7_isCaught_66 : decode cX7_isCaught 66 = .ok (.if_icmp .ge 25, 3) := by decide +kernel
theorem dX7_isCaught_69 : decode cX7_isCaught 69 = .ok (.aload_n 0, 1) := by decide +kernel
theorem dX7_isCaught_70 : decode cX7_isCaught 70 = .ok (.getfield 7, 3) := by decide +kernel
theorem dX7_isCaught_73 : decode cX7_isCaught 73 = .ok (.aload_n 0, 1) := by decide +kernel
theorem dX7_isCaught_74 : decode cX7_isCaught 74 = .ok (.getfield 7, 3) := by decide +kernel
theorem dX7_isCaught_77 : decode cX7_isCaught 77 = .ok (.iconst 1, 1) := by decide +kernel
theorem dX7_isCaught_78 : decode cX7_isCaught 78 = .ok (.iaload, 1) := by decide +kernel
theorem dX7_isCaught_79 : decode cX7_isCaught 79 = .ok (.iload_n 2, 1) := by decide +kernel
theorem dX7_isCaught_80 : decode cX7_isCaught 80 = .ok (.invokestatic 64, 3) := by decide +kernel
theorem dX7_isCaught_83 : decode cX7_isCaught 83 = .ok (.iconst 0, 1) := by decide +kernel
theorem dX7_isCaught_84 : decode cX7_isCaught 84 = .ok (.iastore, 1) := by decide +kernel
theorem dX7_isCaught_85 : decode cX7_isCaught 85 = .ok (.iinc 2 1, 3) := by decide +kernel
theorem dX7_isCaught_88 : decode cX7_isCaught 88 = .ok (.goto (-25), 3) := by decide +kernel
theorem dX7_isCaught_91 : decode cX7_isCaught 91 = .ok (.return_, 1) := by decide +kernel
theorem dX7_rowStep_0 : decode cX7_rowStep 0 = .ok (.iload_n 0, 1) := by decide +kernel
theorem dX7_rowStep_1 : decode cX7_rowStep 1 = .ok (.ifCond .ne 7, 3) := by decide +kernel
theorem dX7_rowStep_4 : decode cX7_rowStep 4 = .ok (.iconst (-1), 1) := by decide +kernel
theorem dX7_rowStep_5 : decode cX7_rowStep 5 = .ok (.goto 13, 3) := by decide +kernel
theorem dX7_rowStep_8 : decode cX7_rowStep 8 = .ok (.iload_n 0, 1) := by decide +kernel
theorem dX7_rowStep_9 : decode cX7_rowStep 9 = .ok (.iconst 2, 1) := by decide +kernel
theorem dX7_rowStep_10 : decode cX7_rowStep 10 = .ok (.if_icmp .ne 7, 3) := by decide +kernel
theorem dX7_rowStep_13 : decode cX7_rowStep 13 = .ok (.iconst 1, 1) := by decide +kernel
theorem dX7_rowStep_14 : decode cX7_rowStep 14 = .ok (.goto 4, 3) := by decide +kernel
theorem dX7_rowStep_17 : decode cX7_rowStep 17 = .ok (.iconst 0, 1) := by decide +kernel
theorem dX7_rowStep_18 : decode cX7_rowStep 18 = .ok (.ireturn, 1) := by decide +kernel
theorem dX7_columnStep_0 : decode cX7_columnStep 0 = .ok (.iload_n 0, 1) := by decide +kernel
theorem dX7_columnStep_1 : decode cX7_columnStep 1 = .ok (.iconst 3, 1) := by decide +kernel
theorem dX7_columnStep_2 : decode cX7_columnStep 2 = .ok (.if_icmp .ne 7, 3) := by decide +kernel
theorem dX7_columnStep_5 : decode cX7_columnStep 5 = .ok (.iconst (-1), 1) := by decide +kernel
theorem dX7_columnStep_6 : decode cX7_columnStep 6 = .ok (.goto 13, 3) := by decide +kernel
theorem dX7_columnStep_9 : decode cX7_columnStep 9 = .ok (.iload_n 0, 1) := by decide +kernel
theorem dX7_columnStep_10 : decode cX7_columnStep 10 = .ok (.iconst 1, 1) := by decide +kernel
theorem dX7_columnStep_11 : decode cX7_columnStep 11 = .ok (.if_icmp .ne 7, 3) := by decide +kernel
theorem dX7_columnStep_14 : decode cX7_columnStep 14 = .ok (.iconst 1, 1) := by decide +kernel
theorem dX7_columnStep_15 : decode cX7_columnStep 15 = .ok (.goto 4, 3) := by decide +kernel
theorem dX7_columnStep_18 : decode cX7_columnStep 18 = .ok (.iconst 0, 1) := by decide +kernel
theorem dX7_columnStep_19 : decode cX7_columnStep 19 = .ok (.ireturn, 1) := by decide +kernel
theorem lg_wsX7_takesOff_0 : GoodIn wsX7_takesOff ([.fieldLink RX7 7 "MolesLawnModel" "s" "[I", .methodLink RX7 64 yX7_of, .static yX7_of, .initialized RX7, .code yX7_of cX7_of 2 (some .int)] : List Cond) := goodIn_sub (fun _ h => (List.mem_cons_of_mem _ (List.mem_append_left _ h))) (by decide +kernel)
theorem ls_wsX7_takesOff_0 : GoodIn wsX7_takesOff wsX70 := goodIn_sub (fun _ h => (List.mem_cons_of_mem _ (List.mem_append_right _ h))) (by decide +kernel)
set_option maxRecDepth 20000 in
theorem ggX7_takesOff_X7_of : GoodIn wsX7_takesOff wsX7_of := (gi_cons (lg_wsX7_takesOff_0 _ (List.mem_of_getElem? (i := 4) rfl)) gi_nil)
set_option maxRecDepth 20000 in
theorem gX7_takesOff_X7_of : GoodIn wsX7_takesOff (va_wsS RX7 64 yX7_of wsX7_of) := goodIn_app (gi_cons (lg_wsX7_takesOff_0 _ (List.mem_of_getElem? (i := 1) rfl)) (gi_cons (lg_wsX7_takesOff_0 _ (List.mem_of_getElem? (i := 2) rfl)) (gi_cons (lg_wsX7_takesOff_0 _ (List.mem_of_getElem? (i := 3) rfl)) gi_nil))) ggX7_takesOff_X7_of
theorem dX7_takesOff_0 : decode cX7_takesOff 0 = .ok (.aload_n 0, 1) := by decide +kernel
theorem dX7_takesOff_1 : decode cX7_takesOff 1 = .ok (.getfield 7, 3) := by decide +kernel
theorem dX7_takesOff_4 : decode cX7_takesOff 4 = .ok (.iload_n 1, 1) := by decide +kernel
theorem dX7_takesOff_5 : decode cX7_takesOff 5 = .ok (.iconst 2, 1) := by decide +kernel
theorem dX7_takesOff_6 : decode cX7_takesOff 6 = .ok (.invokestatic 64, 3) := by decide +kernel
theorem dX7_takesOff_9 : decode cX7_takesOff 9 = .ok (.dup2, 1) := by decide +kernel
theorem dX7_takesOff_10 : decode cX7_takesOff 10 = .ok (.iaload, 1) := by decide +kernel
theorem dX7_takesOff_11 : decode cX7_takesOff 11 = .ok (.iconst 1, 1) := by decide +kernel
theorem dX7_takesOff_12 : decode cX7_takesOff 12 = .ok (.isub, 1) := by decide +kernel
theorem dX7_takesOff_13 : decode cX7_takesOff 13 = .ok (.iastore, 1) := by decide +kernel
theorem dX7_takesOff_14 : decode cX7_takesOff 14 = .ok (.iconst 0, 1) := by decide +kernel
theorem dX7_takesOff_15 : decode cX7_takesOff 15 = .ok (.istore_n 2, 1) := by decide +kernel
theorem dX7_takesOff_16 : decode cX7_takesOff 16 = .ok (.iload_n 2, 1) := by decide +kernel
theorem dX7_takesOff_17 : decode cX7_takesOff 17 = .ok (.aload_n 0, 1) := by decide +kernel
theorem dX7_takesOff_18 : decode cX7_takesOff 18 = .ok (.getfield 7, 3) := by decide +kernel
theorem dX7_takesOff_21 : decode cX7_takesOff 21 = .ok (.iload_n 1, 1) := by decide +kernel
theorem dX7_takesOff_22 : decode cX7_takesOff 22 = .ok (.iconst 2, 1) := by decide +kernel
theorem dX7_takesOff_23 : decode cX7_takesOff 23 = .ok (.invokestatic 64, 3) := by decide +kernel
theorem dX7_takesOff_26 : decode cX7_takesOff 26 = .ok (.iaload, 1) := by decide +kernel
theorem dX7_takesOff_27 : decode cX7_takesOff 27 = .ok (.if_icmp .ge 35, 3) := by decide +kernel
theorem dX7_takesOff_30 : decode cX7_takesOff 30 = .ok (.aload_n 0, 1) := by decide +kernel
theorem dX7_takesOff_31 : decode cX7_takesOff 31 = .ok (.getfield 7, 3) := by decide +kernel
theorem dX7_takesOff_34 : decode cX7_takesOff 34 = .ok (.iload_n 1, 1) := by decide +kernel
theorem dX7_takesOff_35 : decode cX7_takesOff 35 = .ok (.iconst 3, 1) := by decide +kernel
theorem dX7_takesOff_36 : decode cX7_takesOff 36 = .ok (.iload_n 2, 1) := by decide +kernel
theorem dX7_takesOff_37 : decode cX7_takesOff 37 = .ok (.iadd, 1) := by decide +kernel
theorem dX7_takesOff_38 : decode cX7_takesOff 38 = .ok (.invokestatic 64, 3) := by decide +kernel
theorem dX7_takesOff_41 : decode cX7_takesOff 41 = .ok (.aload_n 0, 1) := by decide +kernel
theorem dX7_takesOff_42 : decode cX7_takesOff 42 = .ok (.getfield 7, 3) := by decide +kernel
theorem dX7_takesOff_45 : decode cX7_takesOff 45 = .ok (.iload_n 1, 1) := by decide +kernel
theorem dX7_takesOff_46 : decode cX7_takesOff 46 = .ok (.iconst 3, 1) := by decide +kernel
theorem dX7_takesOff_47 : decode cX7_takesOff 47 = .ok (.iload_n 2, 1) := by decide +kernel
theorem dX7_takesOff_48 : decode cX7_takesOff 48 = .ok (.iadd, 1) := by decide +kernel
theorem dX7_takesOff_49 : decode cX7_takesOff 49 = .ok (.iconst 1, 1) := by decide +kernel
theorem dX7_takesOff_50 : decode cX7_takesOff 50 = .ok (.iadd, 1) := by decide +kernel
theorem dX7_takesOff_51 : decode cX7_takesOff 51 = .ok (.invokestatic 64, 3) := by decide +kernel
theorem dX7_takesOff_54 : decode cX7_takesOff 54 = .ok (.iaload, 1) := by decide +kernel
theorem dX7_takesOff_55 : decode cX7_takesOff 55 = .ok (.iastore, 1) := by decide +kernel
theorem dX7_takesOff_56 : decode cX7_takesOff 56 = .ok (.iinc 2 1, 3) := by decide +kernel
theorem dX7_takesOff_59 : decode cX7_takesOff 59 = .ok (.goto (-43), 3) := by decide +kernel
theorem dX7_takesOff_62 : decode cX7_takesOff 62 = .ok (.aload_n 0, 1) := by decide +kernel
theorem dX7_takesOff_63 : decode cX7_takesOff 63 = .ok (.getfield 7, 3) := by decide +kernel
theorem dX7_takesOff_66 : decode cX7_takesOff 66 = .ok (.iload_n 1, 1) := by decide +kernel
theorem dX7_takesOff_67 : decode cX7_takesOff 67 = .ok (.iconst 3, 1) := by decide +kernel
theorem dX7_takesOff_68 : decode cX7_takesOff 68 = .ok (.aload_n 0, 1) := by decide +kernel
theorem dX7_takesOff_69 : decode cX7_takesOff 69 = .ok (.getfield 7, 3) := by decide +kernel
theorem dX7_takesOff_72 : decode cX7_takesOff 72 = .ok (.iload_n 1, 1) := by decide +kernel
theorem dX7_takesOff_73 : decode cX7_takesOff 73 = .ok (.iconst 2, 1) := by decide +kernel
theorem dX7_takesOff_74 : decode cX7_takesOff 74 = .ok (.invokestatic 64, 3) := by decide +kernel
theorem dX7_takesOff_77 : decode cX7_takesOff 77 = .ok (.iaload, 1) := by decide +kernel
theorem dX7_takesOff_78 : decode cX7_takesOff 78 = .ok (.iadd, 1) := by decide +kernel
theorem dX7_takesOff_79 : decode cX7_takesOff 79 = .ok (.invokestatic 64, 3) := by decide +kernel
theorem dX7_takesOff_82 : decode cX7_takesOff 82 = .ok (.iconst 0, 1) := by decide +kernel
theorem dX7_takesOff_83 : decode cX7_takesOff 83 = .ok (.iastore, 1) := by decide +kernel
theorem dX7_takesOff_84 : decode cX7_takesOff 84 = .ok (.return_, 1) := by decide +kernel
theorem lg_wsX7_goes_0 : GoodIn wsX7_goes ([.fieldLink RX7 7 "MolesLawnModel" "s" "[I", .methodLink RX7 82 yX7_takesOff, .instanceMethod yX7_takesOff, .selects RX7 yX7_takesOff yX7_takesOff, .initialized RX7, .code yX7_takesOff cX7_takesOff 3 none, .methodLink RX7 64 yX7_of, .static yX7_of, .code yX7_of cX7_of 2 (some .int), .methodLink RX7 85 yX7_isCaught, .instanceMethod yX7_isCaught, .selects RX7 yX7_isCaught yX7_isCaught, .code yX7_isCaught cX7_isCaught 3 none] : List Cond) := goodIn_sub (fun _ h => (List.mem_cons_of_mem _ (List.mem_append_left _ h))) (by decide +kernel)
theorem ls_wsX7_goes_0 : GoodIn wsX7_goes wsX70 := goodIn_sub (fun _ h => (List.mem_cons_of_mem _ (List.mem_append_right _ h))) (by decide +kernel)
set_option maxRecDepth 20000 in
theorem ggX7_goes_X7_takesOff : GoodIn wsX7_goes wsX7_takesOff := (gi_cons (lg_wsX7_goes_0 _ (List.mem_of_getElem? (i := 5) rfl)) (goodIn_app (gi_cons (lg_wsX7_goes_0 _ (List.mem_of_getElem? (i := 0) rfl)) (gi_cons (lg_wsX7_goes_0 _ (List.mem_of_getElem? (i := 6) rfl)) (gi_cons (lg_wsX7_goes_0 _ (List.mem_of_getElem? (i := 7) rfl)) (gi_cons (lg_wsX7_goes_0 _ (List.mem_of_getElem? (i := 4) rfl)) (gi_cons (lg_wsX7_goes_0 _ (List.mem_of_getElem? (i := 8) rfl)) gi_nil))))) ls_wsX7_goes_0))
set_option maxRecDepth 20000 in
theorem gX7_goes_X7_takesOff : GoodIn wsX7_goes (wsV RX7 82 RX7 yX7_takesOff wsX7_takesOff) := goodIn_app (gi_cons (lg_wsX7_goes_0 _ (List.mem_of_getElem? (i := 1) rfl)) (gi_cons (lg_wsX7_goes_0 _ (List.mem_of_getElem? (i := 2) rfl)) (gi_cons (lg_wsX7_goes_0 _ (List.mem_of_getElem? (i := 3) rfl)) (gi_cons (lg_wsX7_goes_0 _ (List.mem_of_getElem? (i := 4) rfl)) gi_nil)))) ggX7_goes_X7_takesOff
set_option maxRecDepth 20000 in
theorem ggX7_goes_X7_of : GoodIn wsX7_goes wsX7_of := (gi_cons (lg_wsX7_goes_0 _ (List.mem_of_getElem? (i := 8) rfl)) gi_nil)
set_option maxRecDepth 20000 in
theorem gX7_goes_X7_of : GoodIn wsX7_goes (va_wsS RX7 64 yX7_of wsX7_of) := goodIn_app (gi_cons (lg_wsX7_goes_0 _ (List.mem_of_getElem? (i := 6) rfl)) (gi_cons (lg_wsX7_goes_0 _ (List.mem_of_getElem? (i := 7) rfl)) (gi_cons (lg_wsX7_goes_0 _ (List.mem_of_getElem? (i := 4) rfl)) gi_nil))) ggX7_goes_X7_of
set_option maxRecDepth 20000 in
theorem ggX7_goes_X7_isCaught : GoodIn wsX7_goes wsX7_isCaught := (gi_cons (lg_wsX7_goes_0 _ (List.mem_of_getElem? (i := 12) rfl)) (goodIn_app (gi_cons (lg_wsX7_goes_0 _ (List.mem_of_getElem? (i := 0) rfl)) (gi_cons (lg_wsX7_goes_0 _ (List.mem_of_getElem? (i := 6) rfl)) (gi_cons (lg_wsX7_goes_0 _ (List.mem_of_getElem? (i := 7) rfl)) (gi_cons (lg_wsX7_goes_0 _ (List.mem_of_getElem? (i := 4) rfl)) (gi_cons (lg_wsX7_goes_0 _ (List.mem_of_getElem? (i := 8) rfl)) gi_nil))))) ls_wsX7_goes_0))
set_option maxRecDepth 20000 in
theorem gX7_goes_X7_isCaught : GoodIn wsX7_goes (wsV RX7 85 RX7 yX7_isCaught wsX7_isCaught) := goodIn_app (gi_cons (lg_wsX7_goes_0 _ (List.mem_of_getElem? (i := 9) rfl)) (gi_cons (lg_wsX7_goes_0 _ (List.mem_of_getElem? (i := 10) rfl)) (gi_cons (lg_wsX7_goes_0 _ (List.mem_of_getElem? (i := 11) rfl)) (gi_cons (lg_wsX7_goes_0 _ (List.mem_of_getElem? (i := 4) rfl)) gi_nil)))) ggX7_goes_X7_isCaught
theorem dX7_goes_0 : decode cX7_goes 0 = .ok (.aload_n 0, 1) := by decide +kernel
theorem dX7_goes_1 : decode cX7_goes 1 = .ok (.iload_n 1, 1) := by decide +kernel
theorem dX7_goes_2 : decode cX7_goes 2 = .ok (.invokevirtual 82, 3) := by decide +kernel
theorem dX7_goes_5 : decode cX7_goes 5 = .ok (.aload_n 0, 1) := by decide +kernel
theorem dX7_goes_6 : decode cX7_goes 6 = .ok (.getfield 7, 3) := by decide +kernel
theorem dX7_goes_9 : decode cX7_goes 9 = .ok (.iload_n 1, 1) := by decide +kernel
theorem dX7_goes_10 : decode cX7_goes 10 = .ok (.iconst 0, 1) := by decide +kernel
theorem dX7_goes_11 : decode cX7_goes 11 = .ok (.invokestatic 64, 3) := by decide +kernel
theorem dX7_goes_14 : decode cX7_goes 14 = .ok (.iload_n 2, 1) := by decide +kernel
theorem dX7_goes_15 : decode cX7_goes 15 = .ok (.iastore, 1) := by decide +kernel
theorem dX7_goes_16 : decode cX7_goes 16 = .ok (.aload_n 0, 1) := by decide +kernel
theorem dX7_goes_17 : decode cX7_goes 17 = .ok (.getfield 7, 3) := by decide +kernel
theorem dX7_goes_20 : decode cX7_goes 20 = .ok (.iload_n 1, 1) := by decide +kernel
theorem dX7_goes_21 : decode cX7_goes 21 = .ok (.bipush 24, 2) := by decide +kernel
theorem dX7_goes_23 : decode cX7_goes 23 = .ok (.aload_n 0, 1) := by decide +kernel
theorem dX7_goes_24 : decode cX7_goes 24 = .ok (.getfield 7, 3) := by decide +kernel
theorem dX7_goes_27 : decode cX7_goes 27 = .ok (.iload_n 1, 1) := by decide +kernel
theorem dX7_goes_28 : decode cX7_goes 28 = .ok (.bipush 23, 2) := by decide +kernel
theorem dX7_goes_30 : decode cX7_goes 30 = .ok (.invokestatic 64, 3) := by decide +kernel
theorem dX7_goes_33 : decode cX7_goes 33 = .ok (.iaload, 1) := by decide +kernel
theorem dX7_goes_34 : decode cX7_goes 34 = .ok (.iadd, 1) := by decide +kernel
theorem dX7_goes_35 : decode cX7_goes 35 = .ok (.invokestatic 64, 3) := by decide +kernel
theorem dX7_goes_38 : decode cX7_goes 38 = .ok (.iload_n 2, 1) := by decide +kernel
theorem dX7_goes_39 : decode cX7_goes 39 = .ok (.iastore, 1) := by decide +kernel
theorem dX7_goes_40 : decode cX7_goes 40 = .ok (.aload_n 0, 1) := by decide +kernel
theorem dX7_goes_41 : decode cX7_goes 41 = .ok (.getfield 7, 3) := by decide +kernel
theorem dX7_goes_44 : decode cX7_goes 44 = .ok (.iload_n 1, 1) := by decide +kernel
theorem dX7_goes_45 : decode cX7_goes 45 = .ok (.bipush 23, 2) := by decide +kernel
theorem dX7_goes_47 : decode cX7_goes 47 = .ok (.invokestatic 64, 3) := by decide +kernel
theorem dX7_goes_50 : decode cX7_goes 50 = .ok (.dup2, 1) := by decide +kernel
theorem dX7_goes_51 : decode cX7_goes 51 = .ok (.iaload, 1) := by decide +kernel
theorem dX7_goes_52 : decode cX7_goes 52 = .ok (.iconst 1, 1) := by decide +kernel
theorem dX7_goes_53 : decode cX7_goes 53 = .ok (.iadd, 1) := by decide +kernel
theorem dX7_goes_54 : decode cX7_goes 54 = .ok (.iastore, 1) := by decide +kernel
theorem dX7_goes_55 : decode cX7_goes 55 = .ok (.aload_n 0, 1) := by decide +kernel
theorem dX7_goes_56 : decode cX7_goes 56 = .ok (.getfield 7, 3) := by decide +kernel
theorem dX7_goes_59 : decode cX7_goes 59 = .ok (.iload_n 1, 1) := by decide +kernel
theorem dX7_goes_60 : decode cX7_goes 60 = .ok (.bipush 45, 2) := by decide +kernel
theorem dX7_goes_62 : decode cX7_goes 62 = .ok (.invokestatic 64, 3) := by decide +kernel
theorem dX7_goes_65 : decode cX7_goes 65 = .ok (.dup2, 1) := by decide +kernel
theorem dX7_goes_66 : decode cX7_goes 66 = .ok (.iaload, 1) := by decide +kernel
theorem dX7_goes_67 : decode cX7_goes 67 = .ok (.iconst 1, 1) := by decide +kernel
theorem dX7_goes_68 : decode cX7_goes 68 = .ok (.iadd, 1) := by decide +kernel
theorem dX7_goes_69 : decode cX7_goes 69 = .ok (.iastore, 1) := by decide +kernel
theorem dX7_goes_70 : decode cX7_goes 70 = .ok (.aload_n 0, 1) := by decide +kernel
theorem dX7_goes_71 : decode cX7_goes 71 = .ok (.getfield 7, 3) := by decide +kernel
theorem dX7_goes_74 : decode cX7_goes 74 = .ok (.sipush 136, 3) := by decide +kernel
theorem dX7_goes_77 : decode cX7_goes 77 = .ok (.iload_n 2, 1) := by decide +kernel
theorem dX7_goes_78 : decode cX7_goes 78 = .ok (.iadd, 1) := by decide +kernel
theorem dX7_goes_79 : decode cX7_goes 79 = .ok (.iaload, 1) := by decide +kernel
theorem dX7_goes_80 : decode cX7_goes 80 = .ok (.ifCond .ne 7, 3) := by decide +kernel
theorem dX7_goes_83 : decode cX7_goes 83 = .ok (.iconst 1, 1) := by decide +kernel
theorem dX7_goes_84 : decode cX7_goes 84 = .ok (.goto 4, 3) := by decide +kernel
theorem dX7_goes_87 : decode cX7_goes 87 = .ok (.iconst 0, 1) := by decide +kernel
theorem dX7_goes_88 : decode cX7_goes 88 = .ok (.istore_n 3, 1) := by decide +kernel
theorem dX7_goes_89 : decode cX7_goes 89 = .ok (.aload_n 0, 1) := by decide +kernel
theorem dX7_goes_90 : decode cX7_goes 90 = .ok (.getfield 7, 3) := by decide +kernel
theorem dX7_goes_93 : decode cX7_goes 93 = .ok (.sipush 136, 3) := by decide +kernel
theorem dX7_goes_96 : decode cX7_goes 96 = .ok (.iload_n 2, 1) := by decide +kernel
theorem dX7_goes_97 : decode cX7_goes 97 = .ok (.iadd, 1) := by decide +kernel
theorem dX7_goes_98 : decode cX7_goes 98 = .ok (.iconst (-1), 1) := by decide +kernel
theorem dX7_goes_99 : decode cX7_goes 99 = .ok (.iastore, 1) := by decide +kernel
theorem dX7_goes_100 : decode cX7_goes 100 = .ok (.iload_n 3, 1) := by decide +kernel
theorem dX7_goes_101 : decode cX7_goes 101 = .ok (.ifCond .eq 8, 3) := by decide +kernel
theorem dX7_goes_104 : decode cX7_goes 104 = .ok (.aload_n 0, 1) := by decide +kernel
theorem dX7_goes_105 : decode cX7_goes 105 = .ok (.iload_n 1, 1) := by decide +kernel
theorem dX7_goes_106 : decode cX7_goes 106 = .ok (.invokevirtual 85, 3) := by decide +kernel
theorem dX7_goes_109 : decode cX7_goes 109 = .ok (.iload_n 3, 1) := by decide +kernel
theorem dX7_goes_110 : decode cX7_goes 110 = .ok (.ireturn, 1) := by decide +kernel
