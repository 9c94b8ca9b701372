theorem lg_wsX7_finishes_0 : GoodIn wsX7_finishes ([.fieldLink RX7 7 "MolesLawnModel" "s" "[I", .methodLink RX7 64 yX7_of, .static yX7_of, .initialized RX7, .code yX7_of cX7_of 2 (some .int), .methodLink RX7 72 yX7_inTrail, .instanceMethod yX7_inTrail, .selects RX7 yX7_inTrail yX7_inTrail, .code yX7_inTrail cX7_inTrail 6 (some .int), .methodLink RX7 76 yX7_digs, .instanceMethod yX7_digs, .selects RX7 yX7_digs yX7_digs, .code yX7_digs cX7_digs 4 none, .methodLink RX7 79 yX7_beginsTrail, .instanceMethod yX7_beginsTrail, .selects RX7 yX7_beginsTrail yX7_beginsTrail, .code yX7_beginsTrail cX7_beginsTrail 2 none] : List Cond) := goodIn_sub (fun _ h => (List.mem_cons_of_mem _ (List.mem_append_left _ h))) (by decide +kernel)
theorem ls_wsX7_finishes_0 : GoodIn wsX7_finishes wsX70 := goodIn_sub (fun _ h => (List.mem_cons_of_mem _ (List.mem_append_right _ h))) (by decide +kernel)
set_option maxRecDepth 20000 in
theorem ggX7_finishes_X7_of : GoodIn wsX7_finishes wsX7_of := (gi_cons (lg_wsX7_finishes_0 _ (List.mem_of_getElem? (i := 4) rfl)) gi_nil)
set_option maxRecDepth 20000 in
theorem gX7_finishes_X7_of : GoodIn wsX7_finishes (va_wsS RX7 64 yX7_of wsX7_of) := goodIn_app (gi_cons (lg_wsX7_finishes_0 _ (List.mem_of_getElem? (i := 1) rfl)) (gi_cons (lg_wsX7_finishes_0 _ (List.mem_of_getElem? (i := 2) rfl)) (gi_cons (lg_wsX7_finishes_0 _ (List.mem_of_getElem? (i := 3) rfl)) gi_nil))) ggX7_finishes_X7_of
set_option maxRecDepth 20000 in
theorem ggX7_finishes_X7_inTrail : GoodIn wsX7_finishes wsX7_inTrail := (gi_cons (lg_wsX7_finishes_0 _ (List.mem_of_getElem? (i := 8) rfl)) (goodIn_app (gi_cons (lg_wsX7_finishes_0 _ (List.mem_of_getElem? (i := 0) rfl)) (gi_cons (lg_wsX7_finishes_0 _ (List.mem_of_getElem? (i := 1) rfl)) (gi_cons (lg_wsX7_finishes_0 _ (List.mem_of_getElem? (i := 2) rfl)) (gi_cons (lg_wsX7_finishes_0 _ (List.mem_of_getElem? (i := 3) rfl)) (gi_cons (lg_wsX7_finishes_0 _ (List.mem_of_getElem? (i := 4) rfl)) gi_nil))))) ls_wsX7_finishes_0))
set_option maxRecDepth 20000 in
theorem gX7_finishes_X7_inTrail : GoodIn wsX7_finishes (wsV RX7 72 RX7 yX7_inTrail wsX7_inTrail) := goodIn_app (gi_cons (lg_wsX7_finishes_0 _ (List.mem_of_getElem? (i := 5) rfl)) (gi_cons (lg_wsX7_finishes_0 _ (List.mem_of_getElem? (i := 6) rfl)) (gi_cons (lg_wsX7_finishes_0 _ (List.mem_of_getElem? (i := 7) rfl)) (gi_cons (lg_wsX7_finishes_0 _ (List.mem_of_getElem? (i := 3) rfl)) gi_nil)))) ggX7_finishes_X7_inTrail
set_option maxRecDepth 20000 in
theorem ggX7_finishes_X7_digs : GoodIn wsX7_finishes wsX7_digs := (gi_cons (lg_wsX7_finishes_0 _ (List.mem_of_getElem? (i := 12) rfl)) (goodIn_app (gi_cons (lg_wsX7_finishes_0 _ (List.mem_of_getElem? (i := 0) rfl)) (gi_cons (lg_wsX7_finishes_0 _ (List.mem_of_getElem? (i := 1) rfl)) (gi_cons (lg_wsX7_finishes_0 _ (List.mem_of_getElem? (i := 2) rfl)) (gi_cons (lg_wsX7_finishes_0 _ (List.mem_of_getElem? (i := 3) rfl)) (gi_cons (lg_wsX7_finishes_0 _ (List.mem_of_getElem? (i := 4) rfl)) gi_nil))))) ls_wsX7_finishes_0))
set_option maxRecDepth 20000 in
theorem gX7_finishes_X7_digs : GoodIn wsX7_finishes (wsV RX7 76 RX7 yX7_digs wsX7_digs) := goodIn_app (gi_cons (lg_wsX7_finishes_0 _ (List.mem_of_getElem? (i := 9) rfl)) (gi_cons (lg_wsX7_finishes_0 _ (List.mem_of_getElem? (i := 10) rfl)) (gi_cons (lg_wsX7_finishes_0 _ (List.mem_of_getElem? (i := 11) rfl)) (gi_cons (lg_wsX7_finishes_0 _ (List.mem_of_getElem? (i := 3) rfl)) gi_nil)))) ggX7_finishes_X7_digs
set_option maxRecDepth 20000 in
theorem ggX7_finishes_X7_beginsTrail : GoodIn wsX7_finishes wsX7_beginsTrail := (gi_cons (lg_wsX7_finishes_0 _ (List.mem_of_getElem? (i := 16) rfl)) (goodIn_app (gi_cons (lg_wsX7_finishes_0 _ (List.mem_of_getElem? (i := 0) rfl)) (gi_cons (lg_wsX7_finishes_0 _ (List.mem_of_getElem? (i := 1) rfl)) (gi_cons (lg_wsX7_finishes_0 _ (List.mem_of_getElem? (i := 2) rfl)) (gi_cons (lg_wsX7_finishes_0 _ (List.mem_of_getElem? (i := 3) rfl)) (gi_cons (lg_wsX7_finishes_0 _ (List.mem_of_getElem? (i := 4) rfl)) gi_nil))))) ls_wsX7_finishes_0))
set_option maxRecDepth 20000 in
theorem gX7_finishes_X7_beginsTrail : GoodIn wsX7_finishes (wsV RX7 79 RX7 yX7_beginsTrail wsX7_beginsTrail) := goodIn_app (gi_cons (lg_wsX7_finishes_0 _ (List.mem_of_getElem? (i := 13) rfl)) (gi_cons (lg_wsX7_finishes_0 _ (List.mem_of_getElem? (i := 14) rfl)) (gi_cons (lg_wsX7_finishes_0 _ (List.mem_of_getElem? (i := 15) rfl)) (gi_cons (lg_wsX7_finishes_0 _ (List.mem_of_getElem? (i := 3) rfl)) gi_nil)))) ggX7_finishes_X7_beginsTrail
theorem dX7_finishes_0 : decode cX7_finishes 0 = .ok (.aload_n 0, 1) := by decide +kernel
theorem dX7_finishes_1 : decode cX7_finishes 1 = .ok (.getfield 7, 3) := by decide +kernel
theorem dX7_finishes_4 : decode cX7_finishes 4 = .ok (.iload_n 1, 1) := by decide +kernel
theorem dX7_finishes_5 : decode cX7_finishes 5 = .ok (.iconst 0, 1) := by decide +kernel
theorem dX7_finishes_6 : decode cX7_finishes 6 = .ok (.invokestatic 64, 3) := by decide +kernel
theorem dX7_finishes_9 : decode cX7_finishes 9 = .ok (.iaload, 1) := by decide +kernel
theorem dX7_finishes_10 : decode cX7_finishes 10 = .ok (.istore_n 2, 1) := by decide +kernel
theorem dX7_finishes_11 : decode cX7_finishes 11 = .ok (.aload_n 0, 1) := by decide +kernel
theorem dX7_finishes_12 : decode cX7_finishes 12 = .ok (.iload_n 1, 1) := by decide +kernel
theorem dX7_finishes_13 : decode cX7_finishes 13 = .ok (.iload_n 2, 1) := by decide +kernel
theorem dX7_finishes_14 : decode cX7_finishes 14 = .ok (.iconst 0, 1) := by decide +kernel
theorem dX7_finishes_15 : decode cX7_finishes 15 = .ok (.invokevirtual 72, 3) := by decide +kernel
theorem dX7_finishes_18 : decode cX7_finishes 18 = .ok (.istore_n 3, 1) := by decide +kernel
theorem dX7_finishes_19 : decode cX7_finishes 19 = .ok (.iload_n 3, 1) := by decide +kernel
theorem dX7_finishes_20 : decode cX7_finishes 20 = .ok (.ifCond .le 9, 3) := by decide +kernel
theorem dX7_finishes_23 : decode cX7_finishes 23 = .ok (.aload_n 0, 1) := by decide +kernel
theorem dX7_finishes_24 : decode cX7_finishes 24 = .ok (.iload_n 1, 1) := by decide +kernel
theorem dX7_finishes_25 : decode cX7_finishes 25 = .ok (.iload_n 3, 1) := by decide +kernel
theorem dX7_finishes_26 : decode cX7_finishes 26 = .ok (.invokevirtual 76, 3) := by decide +kernel
theorem dX7_finishes_29 : decode cX7_finishes 29 = .ok (.aload_n 0, 1) := by decide +kernel
theorem dX7_finishes_30 : decode cX7_finishes 30 = .ok (.iload_n 1, 1) := by decide +kernel
theorem dX7_finishes_31 : decode cX7_finishes 31 = .ok (.invokevirtual 79, 3) := by decide +kernel
theorem dX7_finishes_34 : decode cX7_finishes 34 = .ok (.return_, 1) := by decide +kernel
theorem lg_wsX7_isCaught_0 : GoodIn wsX7_isCaught ([.fieldLink RX7 7 "MolesLawnModel" "s" "[I", .methodLink RX7 64 yX7_of, .static yX7_of, .initialized RX7, .code yX7_of cX7_of 2 (some .int)] : List Cond) := goodIn_sub (fun _ h => (List.mem_cons_of_mem _ (List.mem_append_left _ h))) (by decide +kernel)
theorem ls_wsX7_isCaught_0 : GoodIn wsX7_isCaught wsX70 := goodIn_sub (fun _ h => (List.mem_cons_of_mem _ (List.mem_append_right _ h))) (by decide +kernel)
set_option maxRecDepth 20000 in
theorem ggX7_isCaught_X7_of : GoodIn wsX7_isCaught wsX7_of := (gi_cons (lg_wsX7_isCaught_0 _ (List.mem_of_getElem? (i := 4) rfl)) gi_nil)
set_option maxRecDepth 20000 in
theorem gX7_isCaught_X7_of : GoodIn wsX7_isCaught (va_wsS RX7 64 yX7_of wsX7_of) := goodIn_app (gi_cons (lg_wsX7_isCaught_0 _ (List.mem_of_getElem? (i := 1) rfl)) (gi_cons (lg_wsX7_isCaught_0 _ (List.mem_of_getElem? (i := 2) rfl)) (gi_cons (lg_wsX7_isCaught_0 _ (List.mem_of_getElem? (i := 3) rfl)) gi_nil))) ggX7_isCaught_X7_of
theorem dX7_isCaught_0 : decode cX7_isCaught 0 = .ok (.aload_n 0, 1) := by decide +kernel
theorem dX7_isCaught_1 : decode cX7_isCaught 1 = .ok (.getfield 7, 3) := by decide +kernel
theorem dX7_isCaught_4 : decode cX7_isCaught 4 = .ok (.iconst 1, 1) := by decide +kernel
theorem dX7_isCaught_5 : decode cX7_isCaught 5 = .ok (.dup2, 1) := by decide +kernel
theorem dX7_isCaught_6 : decode cX7_isCaught 6 = .ok (.iaload, 1) := by decide +kernel
theorem dX7_isCaught_7 : decode cX7_isCaught 7 = .ok (.iconst 1, 1) := by decide +kernel
theorem dX7_isCaught_8 : decode cX7_isCaught 8 = .ok (.isub, 1) := by decide +kernel
theorem dX7_isCaught_9 : decode cX7_isCaught 9 = .ok (.iastore, 1) := by decide +kernel
theorem dX7_isCaught_10 : decode cX7_isCaught 10 = .ok (.aload_n 0, 1) := by decide +kernel
theorem dX7_isCaught_11 : decode cX7_isCaught 11 = .ok (.getfield 7, 3) := by decide +kernel
theorem dX7_isCaught_14 : decode cX7_isCaught 14 = .ok (.iconst 2, 1) := by decide +kernel
theorem dX7_isCaught_15 : decode cX7_isCaught 15 = .ok (.dup2, 1) := by decide +kernel
theorem dX7_isCaught_16 : decode cX7_isCaught 16 = .ok (.iaload, 1) := by decide +kernel
theorem dX7_isCaught_17 : decode cX7_isCaught 17 = .ok (.iconst 1, 1) := by decide +kernel
theorem dX7_isCaught_18 : decode cX7_isCaught 18 = .ok (.iadd, 1) := by decide +kernel
theorem dX7_isCaught_19 : decode cX7_isCaught 19 = .ok (.iastore, 1) := by decide +kernel
theorem dX7_isCaught_20 : decode cX7_isCaught 20 = .ok (.iload_n 1, 1) := by decide +kernel
theorem dX7_isCaught_21 : decode cX7_isCaught 21 = .ok (.iconst 0, 1) := by decide +kernel
theorem dX7_isCaught_22 : decode cX7_isCaught 22 = .ok (.invokestatic 64, 3) := by decide +kernel
theorem dX7_isCaught_25 : decode cX7_isCaught 25 = .ok (.istore_n 2, 1) := by decide +kernel
theorem dX7_isCaught_26 : decode cX7_isCaught 26 = .ok (.iload_n 2, 1) := by decide +kernel
theorem dX7_isCaught_27 : decode cX7_isCaught 27 = .ok (.aload_n 0, 1) := by decide +kernel
theorem dX7_isCaught_28 : decode cX7_isCaught 28 = .ok (.getfield 7, 3) := by decide +kernel
theorem dX7_isCaught_31 : decode cX7_isCaught 31 = .ok (.iconst 1, 1) := by decide +kernel
theorem dX7_isCaught_32 : decode cX7_isCaught 32 = .ok (.iaload, 1) := by decide +kernel
theorem dX7_isCaught_33 : decode cX7_isCaught 33 = .ok (.iconst 0, 1) := by decide +kernel
theorem dX7_isCaught_34 : decode cX7_isCaught 34 = .ok (.invokestatic 64, 3) := by decide +kernel
theorem dX7_isCaught_37 : decode cX7_isCaught 37 = .ok (.if_icmp .ge 24, 3) := by decide +kernel
theorem dX7_isCaught_40 : decode cX7_isCaught 40 = .ok (.aload_n 0, 1) := by decide +kernel
theorem dX7_isCaught_41 : decode cX7_isCaught 41 = .ok (.getfield 7, 3) := by decide +kernel
theorem dX7_isCaught_44 : decode cX7_isCaught 44 = .ok (.iload_n 2, 1) := by decide +kernel
theorem dX7_isCaught_45 : decode cX7_isCaught 45 = .ok (.aload_n 0, 1) := by decide +kernel
theorem dX7_isCaught_46 : decode cX7_isCaught 46 = .ok (.getfield 7, 3) := by decide +kernel
theorem dX7_isCaught_49 : decode cX7_isCaught 49 = .ok (.iload_n 2, 1) := by decide +kernel
theorem dX7_isCaught_50 : decode cX7_isCaught 50 = .ok (.bipush 46, 2) := by decide +kernel
theorem dX7_isCaught_52 : decode cX7_isCaught 52 = .ok (.iadd, 1) := by decide +kernel
theorem dX7_isCaught_53 : decode cX7_isCaught 53 = .ok (.iaload, 1) := by decide +kernel
theorem dX7_isCaught_54 : decode cX7_isCaught 54 = .ok (.iastore, 1) := by decide +kernel
theorem dX7_isCaught_55 : decode cX7_isCaught 55 = .ok (.iinc 2 1, 3) := by decide +kernel
theorem dX7_isCaught_58 : decode cX7_isCaught 58 = .ok (.goto (-32), 3) := by decide +kernel
theorem dX7_isCaught_61 : decode cX7_isCaught 61 = .ok (.iconst 0, 1) := by decide +kernel
theorem dX7_isCaught_62 : decode cX7_isCaught 62 = .ok (.istore_n 2, 1) := by decide +kernel
theorem dX7_isCaught_63 : decode cX7_isCaught 63 = .ok (.iload_n 2, 1) := by decide +kernel
theorem dX7_isCaught_64 : decode cX7_isCaught 64 = .ok (.bipush 46, 2) := by decide +kernel
theorem dX7_isCaught_66 : decode cX7_isCaught 66 = .ok (.if_icmp .ge 25, 3) := by decide +kernel
theorem dX7_isCaught_69 : decode cX7_isCaught 69 = .ok (.aload_n 0, 1) := by decide +kernel
theorem dX7_isCaught_70 : decode cX7_isCaught 70 = .ok (.getfield 7, 3) := by decide +kernel
theorem dX7_isCaught_73 : decode cX7_isCaught 73 = .ok (.aload_n 0, 1) := by decide +kernel
theorem dX7_isCaught_74 : decode cX7_isCaught 74 = .ok (.getfield 7, 3) := by decide +kernel
theorem dX7_isCaught_77 : decode cX7_isCaught 77 = .ok (.iconst 1, 1) := by decide +kernel
theorem dX7_isCaught_78 : decode cX7_isCaught 78 = .ok (.iaload, 1) := by decide +kernel
theorem dX7_isCaught_79 : decode cX7_isCaught 79 = .ok (.iload_n 2, 1) := by decide +kernel
theorem dX7_isCaught_80 : decode cX7_isCaught 80 = .ok (.invokestatic 64, 3) := by decide +kernel
theorem dX7_isCaught_83 : decode cX7_isCaught 83 = .ok (.iconst 0, 1) := by decide +kernel
theorem dX7_isCaught_84 : decode cX7_isCaught 84 = .ok (.iastore, 1) := by decide +kernel
theorem dX7_isCaught_85 : decode cX7_isCaught 85 = .ok (.iinc 2 1, 3) := by decide +kernel
theorem dX7_isCaught_88 : decode cX7_isCaught 88 = .ok (.goto (-25), 3) := by decide +kernel
theorem dX7_isCaught_91 : decode cX7_isCaught 91 = .ok (.return_, 1) := by decide +kernel
theorem dX7_rowStep_0 : decode cX7_rowStep 0 = .ok (.iload_n 0, 1) := by decide +kernel
theorem dX7_rowStep_1 : decode cX7_rowStep 1 = .ok (.ifCond .ne 7, 3) := by decide +kernel
theorem dX7_rowStep_4 : decode cX7_rowStep 4 = .ok (.iconst (-1), 1) := by decide +kernel
theorem dX7_rowStep_5 : decode cX7_rowStep 5 = .ok (.goto 13, 3) := by decide +kernel
theorem dX7_rowStep_8 : decode cX7_rowStep 8 = .ok (.iload_n 0, 1) := by decide +kernel
theorem dX7_rowStep_9 : decode cX7_rowStep 9 = .ok (.iconst 2, 1) := by decide +kernel
theorem dX7_rowStep_10 : decode cX7_rowStep 10 = .ok (.if_icmp .ne 7, 3) := by decide +kernel
theorem dX7_rowStep_13 : decode cX7_rowStep 13 = .ok (.iconst 1, 1) := by decide +kernel
theorem dX7_rowStep_14 : decode cX7_rowStep 14 = .ok (.goto 4, 3) := by decide +kernel
theorem dX7_rowStep_17 : decode cX7_rowStep 17 = .ok (.iconst 0, 1) := by decide +kernel
theorem dX7_rowStep_18 : decode cX7_rowStep 18 = .ok (.ireturn, 1) := by decide +kernel
theorem dX7_columnStep_0 : decode cX7_columnStep 0 = .ok (.iload_n 0, 1) := by decide +kernel
theorem dX7_columnStep_1 : decode cX7_columnStep 1 = .ok (.iconst 3, 1) := by decide +kernel
theorem dX7_columnStep_2 : decode cX7_columnStep 2 = .ok (.if_icmp .ne 7, 3) := by decide +kernel
theorem dX7_columnStep_5 : decode cX7_columnStep 5 = .ok (.iconst (-1), 1) := by decide +kernel
theorem dX7_columnStep_6 : decode cX7_columnStep 6 = .ok (.goto 13, 3) := by decide +kernel
theorem dX7_columnStep_9 : decode cX7_columnStep 9 = .ok (.iload_n 0, 1) := by decide +kernel
theorem dX7_columnStep_10 : decode cX7_columnStep 10 = .ok (.iconst 1, 1) := by decide +kernel
theorem dX7_columnStep_11 : decode cX7_columnStep 11 = .ok (.if_icmp .ne 7, 3) := by decide +kernel
theorem dX7_columnStep_14 : decode cX7_columnStep 14 = .ok (.iconst 1, 1) := by decide +kernel
theorem dX7_columnStep_15 : decode cX7_columnStep 15 = .ok (.goto 4, 3) := by decide +kernel
theorem dX7_columnStep_18 : decode cX7_columnStep 18 = .ok (.iconst 0, 1) := by decide +kernel
theorem dX7_columnStep_19 : decode cX7_columnStep 19 = .ok (.ireturn, 1) := by decide +kernel
theorem lg_wsX7_takesOff_0 : GoodIn wsX7_takesOff ([.fieldLink RX7 7 "MolesLawnModel" "s" "[I", .methodLink RX7 64 yX7_of, .static yX7_of, .initialized RX7, .code yX7_of cX7_of 2 (some .int)] : List Cond) := goodIn_sub (fun _ h => (List.mem_cons_of_mem _ (List.mem_append_left _ h))) (by decide +kernel)
theorem ls_wsX7_takesOff_0 : GoodIn wsX7_takesOff wsX70 := goodIn_sub (fun _ h => (List.mem_cons_of_mem _ (List.mem_append_right _ h))) (by decide +kernel)
set_option maxRecDepth 20000 in
theorem ggX7_takesOff_X7_of : GoodIn wsX7_takesOff wsX7_of := (gi_cons (lg_wsX7_takesOff_0 _ (List.mem_of_getElem? (i := 4) rfl)) gi_nil)
set_option maxRecDepth 20000 in
theorem gX7_takesOff_X7_of : GoodIn wsX7_takesOff (va_wsS RX7 64 yX7_of wsX7_of) := goodIn_app (gi_cons (lg_wsX7_takesOff_0 _ (List.mem_of_getElem? (i := 1) rfl)) (gi_cons (lg_wsX7_takesOff_0 _ (List.mem_of_getElem? (i := 2) rfl)) (gi_cons (lg_wsX7_takesOff_0 _ (List.mem_of_getElem? (i := 3) rfl)) gi_nil))) ggX7_takesOff_X7_of
theorem dX7_takesOff_0 : decode cX7_takesOff 0 = .ok (.aload_n 0, 1) := by decide +kernel
theorem dX7_takesOff_1 : decode cX7_takesOff 1 = .ok (.getfield 7, 3) := by decide +kernel
theorem dX7_takesOff_4 : decode cX7_takesOff 4 = .ok (.iload_n 1, 1) := by decide +kernel
theorem dX7_takesOff_5 : decode cX7_takesOff 5 = .ok (.iconst 2, 1) := by decide +kernel
theorem dX7_takesOff_6 : decode cX7_takesOff 6 = .ok (.invokestatic 64, 3) := by decide +kernel
theorem dX7_takesOff_9 : decode cX7_takesOff 9 = .ok (.dup2, 1) := by decide +kernel
theorem dX7_takesOff_10 : decode cX7_takesOff 10 = .ok (.iaload, 1) := by decide +kernel
theorem dX7_takesOff_11 : decode cX7_takesOff 11 = .ok (.iconst 1, 1) := by decide +kernel
theorem dX7_takesOff_12 : decode cX7_takesOff 12 = .ok (.isub, 1) := by decide +kernel
theorem dX7_takesOff_13 : decode cX7_takesOff 13 = .ok (.iastore, 1) := by decide +kernel
theorem dX7_takesOff_14 : decode cX7_takesOff 14 = .ok (.iconst 0, 1) := by decide +kernel
theorem dX7_takesOff_15 : decode cX7_takesOff 15 = .ok (.istore_n 2, 1) := by decide +kernel
theorem dX7_takesOff_16 : decode cX7_takesOff 16 = .ok (.iload_n 2, 1) := by decide +kernel
theorem dX7_takesOff_17 : decode cX7_takesOff 17 = .ok (.aload_n 0, 1) := by decide +kernel
theorem dX7_takesOff_18 : decode cX7_takesOff 18 = .ok (.getfield 7, 3) := by decide +kernel
theorem dX7_takesOff_21 : decode cX7_takesOff 21 = .ok (.iload_n 1, 1) := by decide +kernel
theorem dX7_takesOff_22 : decode cX7_takesOff 22 = .ok (.iconst 2, 1) := by decide +kernel
theorem dX7_takesOff_23 : decode cX7_takesOff 23 = .ok (.invokestatic 64, 3) := by decide +kernel
theorem dX7_takesOff_26 : decode cX7_takesOff 26 = .ok (.iaload, 1) := by decide +kernel
theorem dX7_takesOff_27 : decode cX7_takesOff 27 = .ok (.if_icmp .ge 35, 3) := by decide +kernel
theorem dX7_takesOff_30 : decode cX7_takesOff 30 = .ok (.aload_n 0, 1) := by decide +kernel
theorem dX7_takesOff_31 : decode cX7_takesOff 31 = .ok (.getfield 7, 3) := by decide +kernel
theorem dX7_takesOff_34 : decode cX7_takesOff 34 = .ok (.iload_n 1, 1) := by decide +kernel
theorem dX7_takesOff_35 : decode cX7_takesOff 35 = .ok (.iconst 3, 1) := by decide +kernel
theorem dX7_takesOff_36 : decode cX7_takesOff 36 = .ok (.iload_n 2, 1) := by decide +kernel
theorem dX7_takesOff_37 : decode cX7_takesOff 37 = .ok (.iadd, 1) := by decide +kernel
theorem dX7_takesOff_38 : decode cX7_takesOff 38 = .ok (.invokestatic 64, 3) := by decide +kernel
theorem dX7_takesOff_41 : decode cX7_takesOff 41 = .ok (.aload_n 0, 1) := by decide +kernel
theorem dX7_takesOff_42 : decode cX7_takesOff 42 = .ok (.getfield 7, 3) := by decide +kernel
theorem dX7_takesOff_45 : decode cX7_takesOff 45 = .ok (.iload_n 1, 1) := by decide +kernel
theorem dX7_takesOff_46 : decode cX7_takesOff 46 = .ok (.iconst 3, 1) := by decide +kernel
theorem dX7_takesOff_47 : decode cX7_takesOff 47 = .ok (.iload_n 2, 1) := by decide +kernel
theorem dX7_takesOff_48 : decode cX7_takesOff 48 = .ok (.iadd, 1) := by decide +kernel
theorem dX7_takesOff_49 : decode cX7_takesOff 49 = .ok (.iconst 1, 1) := by decide +kernel
theorem dX7_takesOff_50 : decode cX7_takesOff 50 = .ok (.iadd, 1) := by decide +kernel
theorem dX7_takesOff_51 : decode cX7_takesOff 51 = .ok (.invokestatic 64, 3) := by decide +kernel
theorem dX7_takesOff_54 : decode cX7_takesOff 54 = .ok (.iaload, 1) := by decide +kernel
theorem dX7_takesOff_55 : decode cX7_takesOff 55 = .ok (.iastore, 1) := by decide +kernel
theorem dX7_takesOff_56 : decode cX7_takesOff 56 = .ok (.iinc 2 1, 3) := by decide +kernel
theorem dX7_takesOff_59 : decode cX7_takesOff 59 = .ok (.goto (-43), 3) := by decide +kernel
theorem dX7_takesOff_62 : decode cX7_takesOff 62 = .ok (.aload_n 0, 1) := by decide +kernel
theorem dX7_takesOff_63 : decode cX7_takesOff 63 = .ok (.getfield 7, 3) := by decide +kernel
theorem dX7_takesOff_66 : decode cX7_takesOff 66 = .ok (.iload_n 1, 1) := by decide +kernel
theorem dX7_takesOff_67 : decode cX7_takesOff 67 = .ok (.iconst 3, 1) := by decide +kernel
theorem dX7_takesOff_68 : decode cX7_takesOff 68 = .ok (.aload_n 0, 1) := by decide +kernel
theorem dX7_takesOff_69 : decode cX7_takesOff 69 = .ok (.getfield 7, 3) := by decide +kernel
theorem dX7_takesOff_72 : decode cX7_takesOff 72 = .ok (.iload_n 1, 1) := by decide +kernel
theorem dX7_takesOff_73 : decode cX7_takesOff 73 = .ok (.iconst 2, 1) := by decide +kernel
theorem dX7_takesOff_74 : decode cX7_takesOff 74 = .ok (.invokestatic 64, 3) := by decide +kernel
theorem dX7_takesOff_77 : decode cX7_takesOff 77 = .ok (.iaload, 1) := by decide +kernel
theorem dX7_takesOff_78 : decode cX7_takesOff 78 = .ok (.iadd, 1) := by decide +kernel
theorem dX7_takesOff_79 : decode cX7_takesOff 79 = .ok (.invokestatic 64, 3) := by decide +kernel
theorem dX7_takesOff_82 : decode cX7_takesOff 82 = .ok (.iconst 0, 1) := by decide +kernel
theorem dX7_takesOff_83 : decode cX7_takesOff 83 = .ok (.iastore, 1) := by decide +kernel
theorem dX7_takesOff_84 : decode cX7_takesOff 84 = .ok (.return_, 1) := by decide +kernel
theorem lg_wsX7_goes_0 : GoodIn wsX7_goes ([.fieldLink RX7 7 "MolesLawnModel" "s" "[I", .methodLink RX7 82 yX7_takesOff, .instanceMethod yX7_takesOff, .selects RX7 yX7_takesOff yX7_takesOff, .initialized RX7, .code yX7_takesOff cX7_takesOff 3 none, .methodLink RX7 64 yX7_of, .static yX7_of, .code yX7_of cX7_of 2 (some .int), .methodLink RX7 85 yX7_isCaught, .instanceMethod yX7_isCaught, .selects RX7 yX7_isCaught yX7_isCaught, .code yX7_isCaught cX7_isCaught 3 none] : List Cond) := goodIn_sub (fun _ h => (List.mem_cons_of_mem _ (List.mem_append_left _ h))) (by decide +kernel)
theorem ls_wsX7_goes_0 : GoodIn wsX7_goes wsX70 := goodIn_sub (fun _ h => (List.mem_cons_of_mem _ (List.mem_append_right _ h))) (by decide +kernel)
set_option maxRecDepth 20000 in
theorem ggX7_goes_X7_takesOff : GoodIn wsX7_goes wsX7_takesOff := (gi_cons (lg_wsX7_goes_0 _ (List.mem_of_getElem? (i := 5) rfl)) (goodIn_app (gi_cons (lg_wsX7_goes_0 _ (List.mem_of_getElem? (i := 0) rfl)) (gi_cons (lg_wsX7_goes_0 _ (List.mem_of_getElem? (i := 6) rfl)) (gi_cons (lg_wsX7_goes_0 _ (List.mem_of_getElem? (i := 7) rfl)) (gi_cons (lg_wsX7_goes_0 _ (List.mem_of_getElem? (i := 4) rfl)) (gi_cons (lg_wsX7_goes_0 _ (List.mem_of_getElem? (i := 8) rfl)) gi_nil))))) ls_wsX7_goes_0))
set_option maxRecDepth 20000 in
theorem gX7_goes_X7_takesOff : GoodIn wsX7_goes (wsV RX7 82 RX7 yX7_takesOff wsX7_takesOff) := goodIn_app (gi_cons (lg_wsX7_goes_0 _ (List.mem_of_getElem? (i := 1) rfl)) (gi_cons (lg_wsX7_goes_0 _ (List.mem_of_getElem? (i := 2) rfl)) (gi_cons (lg_wsX7_goes_0 _ (List.mem_of_getElem? (i := 3) rfl)) (gi_cons (lg_wsX7_goes_0 _ (List.mem_of_getElem? (i := 4) rfl)) gi_nil)))) ggX7_goes_X7_takesOff
set_option maxRecDepth 20000 in
theorem ggX7_goes_X7_of : GoodIn wsX7_goes wsX7_of := (gi_cons (lg_wsX7_goes_0 _ (List.mem_of_getElem? (i := 8) rfl)) gi_nil)
set_option maxRecDepth 20000 in
theorem gX7_goes_X7_of : GoodIn wsX7_goes (va_wsS RX7 64 yX7_of wsX7_of) := goodIn_app (gi_cons (lg_wsX7_goes_0 _ (List.mem_of_getElem? (i := 6) rfl)) (gi_cons (lg_wsX7_goes_0 _ (List.mem_of_getElem? (i := 7) rfl)) (gi_cons (lg_wsX7_goes_0 _ (List.mem_of_getElem? (i := 4) rfl)) gi_nil))) ggX7_goes_X7_of
set_option maxRecDepth 20000 in
theorem ggX7_goes_X7_isCaught : GoodIn wsX7_goes wsX7_isCaught := (gi_cons (lg_wsX7_goes_0 _ (List.mem_of_getElem? (i := 12) rfl)) (goodIn_app (gi_cons (lg_wsX7_goes_0 _ (List.mem_of_getElem? (i := 0) rfl)) (gi_cons (lg_wsX7_goes_0 _ (List.mem_of_getElem? (i := 6) rfl)) (gi_cons (lg_wsX7_goes_0 _ (List.mem_of_getElem? (i := 7) rfl)) (gi_cons (lg_wsX7_goes_0 _ (List.mem_of_getElem? (i := 4) rfl)) (gi_cons (lg_wsX7_goes_0 _ (List.mem_of_getElem? (i := 8) rfl)) gi_nil))))) ls_wsX7_goes_0))
set_option maxRecDepth 20000 in
theorem gX7_goes_X7_isCaught : GoodIn wsX7_goes (wsV RX7 85 RX7 yX7_isCaught wsX7_isCaught) := goodIn_app (gi_cons (lg_wsX7_goes_0 _ (List.mem_of_getElem? (i := 9) rfl)) (gi_cons (lg_wsX7_goes_0 _ (List.mem_of_getElem? (i := 10) rfl)) (gi_cons (lg_wsX7_goes_0 _ (List.mem_of_getElem? (i := 11) rfl)) (gi_cons (lg_wsX7_goes_0 _ (List.mem_of_getElem? (i := 4) rfl)) gi_nil)))) ggX7_goes_X7_isCaught
theorem dX7_goes_0 : decode cX7_goes 0 = .ok (.aload_n 0, 1) := by decide +kernel
theorem dX7_goes_1 : decode cX7_goes 1 = .ok (.iload_n 1, 1) := by decide +kernel
theorem dX7_goes_2 : decode cX7_goes 2 = .ok (.invokevirtual 82, 3) := by decide +kernel
theorem dX7_goes_5 : decode cX7_goes 5 = .ok (.aload_n 0, 1) := by decide +kernel
theorem dX7_goes_6 : decode cX7_goes 6 = .ok (.getfield 7, 3) := by decide +kernel
theorem dX7_goes_9 : decode cX7_goes 9 = .ok (.iload_n 1, 1) := by decide +kernel
theorem dX7_goes_10 : decode cX7_goes 10 = .ok (.iconst 0, 1) := by decide +kernel
theorem dX7_goes_11 : decode cX7_goes 11 = .ok (.invokestatic 64, 3) := by decide +kernel
theorem dX7_goes_14 : decode cX7_goes 14 = .ok (.iload_n 2, 1) := by decide +kernel
theorem dX7_goes_15 : decode cX7_goes 15 = .ok (.iastore, 1) := by decide +kernel
theorem dX7_goes_16 : decode cX7_goes 16 = .ok (.aload_n 0, 1) := by decide +kernel
theorem dX7_goes_17 : decode cX7_goes 17 = .ok (.getfield 7, 3) := by decide +kernel
theorem dX7_goes_20 : decode cX7_goes 20 = .ok (.iload_n 1, 1) := by decide +kernel
theorem dX7_goes_21 : decode cX7_goes 21 = .ok (.bipush 24, 2) := by decide +kernel
theorem dX7_goes_23 : decode cX7_goes 23 = .ok (.aload_n 0, 1) := by decide +kernel
theorem dX7_goes_24 : decode cX7_goes 24 = .ok (.getfield 7, 3) := by decide +kernel
theorem dX7_goes_27 : decode cX7_goes 27 = .ok (.iload_n 1, 1) := by decide +kernel
theorem dX7_goes_28 : decode cX7_goes 28 = .ok (.bipush 23, 2) := by decide +kernel
theorem dX7_goes_30 : decode cX7_goes 30 = .ok (.invokestatic 64, 3) := by decide +kernel
theorem dX7_goes_33 : decode cX7_goes 33 = .ok (.iaload, 1) := by decide +kernel
theorem dX7_goes_34 : decode cX7_goes 34 = .ok (.iadd, 1) := by decide +kernel
theorem dX7_goes_35 : decode cX7_goes 35 = .ok (.invokestatic 64, 3) := by decide +kernel
theorem dX7_goes_38 : decode cX7_goes 38 = .ok (.iload_n 2, 1) := by decide +kernel
theorem dX7_goes_39 : decode cX7_goes 39 = .ok (.iastore, 1) := by decide +kernel
theorem dX7_goes_40 : decode cX7_goes 40 = .ok (.aload_n 0, 1) := by decide +kernel
theorem dX7_goes_41 : decode cX7_goes 41 = .ok (.getfield 7, 3) := by decide +kernel
theorem dX7_goes_44 : decode cX7_goes 44 = .ok (.iload_n 1, 1) := by decide +kernel
theorem dX7_goes_45 : decode cX7_goes 45 = .ok (.bipush 23, 2) := by decide +kernel
theorem dX7_goes_47 : decode cX7_goes 47 = .ok (.invokestatic 64, 3) := by decide +kernel
theorem dX7_goes_50 : decode cX7_goes 50 = .ok (.dup2, 1) := by decide +kernel
theorem dX7_goes_51 : decode cX7_goes 51 = .ok (.iaload, 1) := by decide +kernel
theorem dX7_goes_52 : decode cX7_goes 52 = .ok (.iconst 1, 1) := by decide +kernel
theorem dX7_goes_53 : decode cX7_goes 53 = .ok (.iadd, 1) := by decide +kernel
theorem dX7_goes_54 : decode cX7_goes 54 = .ok (.iastore, 1) := by decide +kernel
theorem dX7_goes_55 : decode cX7_goes 55 = .ok (.aload_n 0, 1) := by decide +kernel
theorem dX7_goes_56 : decode cX7_goes 56 = .ok (.getfield 7, 3) := by decide +kernel
theorem dX7_goes_59 : decode cX7_goes 59 = .ok (.iload_n 1, 1) := by decide +kernel
theorem dX7_goes_60 : decode cX7_goes 60 = .ok (.bipush 45, 2) := by decide +kernel
theorem dX7_goes_62 : decode cX7_goes 62 = .ok (.invokestatic 64, 3) := by decide +kernel
theorem dX7_goes_65 : decode cX7_goes 65 = .ok (.dup2, 1) := by decide +kernel
theorem dX7_goes_66 : decode cX7_goes 66 = .ok (.iaload, 1) := by decide +kernel
theorem dX7_goes_67 : decode cX7_goes 67 = .ok (.iconst 1, 1) := by decide +kernel
theorem dX7_goes_68 : decode cX7_goes 68 = .ok (.iadd, 1) := by decide +kernel
theorem dX7_goes_69 : decode cX7_goes 69 = .ok (.iastore, 1) := by decide +kernel
theorem dX7_goes_70 : decode cX7_goes 70 = .ok (.aload_n 0, 1) := by decide +kernel
theorem dX7_goes_71 : decode cX7_goes 71 = .ok (.getfield 7, 3) := by decide +kernel
theorem dX7_goes_74 : decode cX7_goes 74 = .ok (.sipush 136, 3) := by decide +kernel
theorem dX7_goes_77 : decode cX7_goes 77 = .ok (.iload_n 2, 1) := by decide +kernel
theorem dX7_goes_78 : decode cX7_goes 78 = .ok (.iadd, 1) := by decide +kernel
theorem dX7_goes_79 : decode cX7_goes 79 = .ok (.iaload, 1) := by decide +kernel
theorem dX7_goes_80 : decode cX7_goes 80 = .ok (.ifCond .ne 7, 3) := by decide +kernel
theorem dX7_goes_83 : decode cX7_goes 83 = .ok (.iconst 1, 1) := by decide +kernel
theorem dX7_goes_84 : decode cX7_goes 84 = .ok (.goto 4, 3) := by decide +kernel
theorem dX7_goes_87 : decode cX7_goes 87 = .ok (.iconst 0, 1) := by decide +kernel
theorem dX7_goes_88 : decode cX7_goes 88 = .ok (.istore_n 3, 1) := by decide +kernel
theorem dX7_goes_89 : decode cX7_goes 89 = .ok (.aload_n 0, 1) := by decide +kernel
theorem dX7_goes_90 : decode cX7_goes 90 = .ok (.getfield 7, 3) := by decide +kernel
theorem dX7_goes_93 : decode cX7_goes 93 = .ok (.sipush 136, 3) := by decide +kernel
theorem dX7_goes_96 : decode cX7_goes 96 = .ok (.iload_n 2, 1) := by decide +kernel
theorem dX7_goes_97 : decode cX7_goes 97 = .ok (.iadd, 1) := by decide +kernel
theorem dX7_goes_98 : decode cX7_goes 98 = .ok (.iconst (-1), 1) := by decide +kernel
theorem dX7_goes_99 : decode cX7_goes 99 = .ok (.iastore, 1) := by decide +kernel
theorem dX7_goes_100 : decode cX7_goes 100 = .ok (.iload_n 3, 1) := by decide +kernel
theorem dX7_goes_101 : decode cX7_goes 101 = .ok (.ifCond .eq 8, 3) := by decide +kernel
theorem dX7_goes_104 : decode cX7_goes 104 = .ok (.aload_n 0, 1) := by decide +kernel
theorem dX7_goes_105 : decode cX7_goes 105 = .ok (.iload_n 1, 1) := by decide +kernel
theorem dX7_goes_106 : decode cX7_goes 106 = .ok (.invokevirtual 85, 3) := by decide +kernel
theorem dX7_goes_109 : decode cX7_goes 109 = .ok (.iload_n 3, 1) := by decide +kernel
theorem dX7_goes_110 : decode cX7_goes 110 = .ok (.ireturn, 1) := by decide +kernel
theorem lg_wsX7_tries_0 : GoodIn wsX7_tries wsX7_tries_r1 := goodIn_sub (fun _ h => (List.mem_cons_of_mem _ (List.mem_append_left _ (List.mem_append_left _ h)))) (by decide +kernel)
theorem lg_wsX7_tries_1 : GoodIn wsX7_tries wsX7_tries_r2 := goodIn_sub (fun _ h => (List.mem_cons_of_mem _ (List.mem_append_left _ (List.mem_append_right _ (List.mem_append_left _ h))))) (by decide +kernel)
theorem lg_wsX7_tries_2 : GoodIn wsX7_tries wsX7_tries_r3 := goodIn_sub (fun _ h => (List.mem_cons_of_mem _ (List.mem_append_left _ (List.mem_append_right _ (List.mem_append_right _ h))))) (by decide +kernel)
theorem ls_wsX7_tries_0 : GoodIn wsX7_tries wsX70 := goodIn_sub (fun _ h => (List.mem_cons_of_mem _ (List.mem_append_right _ h))) (by decide +kernel)
set_option maxRecDepth 20000 in
theorem ggX7_tries_X7_of : GoodIn wsX7_tries wsX7_of := (gi_cons (lg_wsX7_tries_0 _ (List.mem_of_getElem? (i := 4) rfl)) gi_nil)
set_option maxRecDepth 20000 in
theorem gX7_tries_X7_of : GoodIn wsX7_tries (va_wsS RX7 64 yX7_of wsX7_of) := goodIn_app (gi_cons (lg_wsX7_tries_0 _ (List.mem_of_getElem? (i := 1) rfl)) (gi_cons (lg_wsX7_tries_0 _ (List.mem_of_getElem? (i := 2) rfl)) (gi_cons (lg_wsX7_tries_0 _ (List.mem_of_getElem? (i := 3) rfl)) gi_nil))) ggX7_tries_X7_of
set_option maxRecDepth 20000 in
theorem ggX7_tries_X7_goes : GoodIn wsX7_tries wsX7_goes := (gi_cons (lg_wsX7_tries_0 _ (List.mem_of_getElem? (i := 8) rfl)) (goodIn_app (gi_cons (lg_wsX7_tries_0 _ (List.mem_of_getElem? (i := 0) rfl)) (gi_cons (lg_wsX7_tries_0 _ (List.mem_of_getElem? (i := 9) rfl)) (gi_cons (lg_wsX7_tries_0 _ (List.mem_of_getElem? (i := 10) rfl)) (gi_cons (lg_wsX7_tries_0 _ (List.mem_of_getElem? (i := 11) rfl)) (gi_cons (lg_wsX7_tries_0 _ (List.mem_of_getElem? (i := 3) rfl)) (gi_cons (lg_wsX7_tries_0 _ (List.mem_of_getElem? (i := 12) rfl)) (gi_cons (lg_wsX7_tries_0 _ (List.mem_of_getElem? (i := 1) rfl)) (gi_cons (lg_wsX7_tries_0 _ (List.mem_of_getElem? (i := 2) rfl)) (gi_cons (lg_wsX7_tries_0 _ (List.mem_of_getElem? (i := 4) rfl)) (gi_cons (lg_wsX7_tries_0 _ (List.mem_of_getElem? (i := 13) rfl)) (gi_cons (lg_wsX7_tries_0 _ (List.mem_of_getElem? (i := 14) rfl)) (gi_cons (lg_wsX7_tries_0 _ (List.mem_of_getElem? (i := 15) rfl)) (gi_cons (lg_wsX7_tries_0 _ (List.mem_of_getElem? (i := 16) rfl)) gi_nil))))))))))))) ls_wsX7_tries_0))
set_option maxRecDepth 20000 in
theorem gX7_tries_X7_goes : GoodIn wsX7_tries (wsV RX7 88 RX7 yX7_goes wsX7_goes) := goodIn_app (gi_cons (lg_wsX7_tries_0 _ (List.mem_of_getElem? (i := 5) rfl)) (gi_cons (lg_wsX7_tries_0 _ (List.mem_of_getElem? (i := 6) rfl)) (gi_cons (lg_wsX7_tries_0 _ (List.mem_of_getElem? (i := 7) rfl)) (gi_cons (lg_wsX7_tries_0 _ (List.mem_of_getElem? (i := 3) rfl)) gi_nil)))) ggX7_tries_X7_goes
set_option maxRecDepth 20000 in
theorem ggX7_tries_X7_hasMound : GoodIn wsX7_tries wsX7_hasMound := (gi_cons (lg_wsX7_tries_0 _ (List.mem_of_getElem? (i := 20) rfl)) (goodIn_app (gi_cons (lg_wsX7_tries_0 _ (List.mem_of_getElem? (i := 0) rfl)) gi_nil) ls_wsX7_tries_0))
set_option maxRecDepth 20000 in
theorem gX7_tries_X7_hasMound : GoodIn wsX7_tries (wsV RX7 92 RX7 yX7_hasMound wsX7_hasMound) := goodIn_app (gi_cons (lg_wsX7_tries_0 _ (List.mem_of_getElem? (i := 17) rfl)) (gi_cons (lg_wsX7_tries_0 _ (List.mem_of_getElem? (i := 18) rfl)) (gi_cons (lg_wsX7_tries_0 _ (List.mem_of_getElem? (i := 19) rfl)) (gi_cons (lg_wsX7_tries_0 _ (List.mem_of_getElem? (i := 3) rfl)) gi_nil)))) ggX7_tries_X7_hasMound
set_option maxRecDepth 20000 in
theorem ggX7_tries_X7_finishes : GoodIn wsX7_tries wsX7_finishes := (gi_cons (lg_wsX7_tries_1 _ (List.mem_of_getElem? (i := 0) rfl)) (goodIn_app (gi_cons (lg_wsX7_tries_0 _ (List.mem_of_getElem? (i := 0) rfl)) (gi_cons (lg_wsX7_tries_0 _ (List.mem_of_getElem? (i := 1) rfl)) (gi_cons (lg_wsX7_tries_0 _ (List.mem_of_getElem? (i := 2) rfl)) (gi_cons (lg_wsX7_tries_0 _ (List.mem_of_getElem? (i := 3) rfl)) (gi_cons (lg_wsX7_tries_0 _ (List.mem_of_getElem? (i := 4) rfl)) (gi_cons (lg_wsX7_tries_1 _ (List.mem_of_getElem? (i := 1) rfl)) (gi_cons (lg_wsX7_tries_1 _ (List.mem_of_getElem? (i := 2) rfl)) (gi_cons (lg_wsX7_tries_1 _ (List.mem_of_getElem? (i := 3) rfl)) (gi_cons (lg_wsX7_tries_1 _ (List.mem_of_getElem? (i := 4) rfl)) (gi_cons (lg_wsX7_tries_1 _ (List.mem_of_getElem? (i := 5) rfl)) (gi_cons (lg_wsX7_tries_1 _ (List.mem_of_getElem? (i := 6) rfl)) (gi_cons (lg_wsX7_tries_1 _ (List.mem_of_getElem? (i := 7) rfl)) (gi_cons (lg_wsX7_tries_1 _ (List.mem_of_getElem? (i := 8) rfl)) (gi_cons (lg_wsX7_tries_1 _ (List.mem_of_getElem? (i := 9) rfl)) (gi_cons (lg_wsX7_tries_1 _ (List.mem_of_getElem? (i := 10) rfl)) (gi_cons (lg_wsX7_tries_1 _ (List.mem_of_getElem? (i := 11) rfl)) (gi_cons (lg_wsX7_tries_1 _ (List.mem_of_getElem? (i := 12) rfl)) gi_nil))))))))))))))))) ls_wsX7_tries_0))
set_option maxRecDepth 20000 in
theorem gX7_tries_X7_finishes : GoodIn wsX7_tries (wsV RX7 96 RX7 yX7_finishes wsX7_finishes) := goodIn_app (gi_cons (lg_wsX7_tries_0 _ (List.mem_of_getElem? (i := 21) rfl)) (gi_cons (lg_wsX7_tries_0 _ (List.mem_of_getElem? (i := 22) rfl)) (gi_cons (lg_wsX7_tries_0 _ (List.mem_of_getElem? (i := 23) rfl)) (gi_cons (lg_wsX7_tries_0 _ (List.mem_of_getElem? (i := 3) rfl)) gi_nil)))) ggX7_tries_X7_finishes
set_option maxRecDepth 20000 in
theorem ggX7_tries_X7_comesUp : GoodIn wsX7_tries wsX7_comesUp := (gi_cons (lg_wsX7_tries_1 _ (List.mem_of_getElem? (i := 16) rfl)) (goodIn_app (goodIn_app (gi_cons (lg_wsX7_tries_0 _ (List.mem_of_getElem? (i := 0) rfl)) (gi_cons (lg_wsX7_tries_1 _ (List.mem_of_getElem? (i := 17) rfl)) (gi_cons (lg_wsX7_tries_1 _ (List.mem_of_getElem? (i := 18) rfl)) (gi_cons (lg_wsX7_tries_1 _ (List.mem_of_getElem? (i := 19) rfl)) (gi_cons (lg_wsX7_tries_0 _ (List.mem_of_getElem? (i := 3) rfl)) (gi_cons (lg_wsX7_tries_1 _ (List.mem_of_getElem? (i := 20) rfl)) (gi_cons (lg_wsX7_tries_1 _ (List.mem_of_getElem? (i := 21) rfl)) (gi_cons (lg_wsX7_tries_1 _ (List.mem_of_getElem? (i := 22) rfl)) (gi_cons (lg_wsX7_tries_1 _ (List.mem_of_getElem? (i := 23) rfl)) (gi_cons (lg_wsX7_tries_2 _ (List.mem_of_getElem? (i := 0) rfl)) (gi_cons (lg_wsX7_tries_2 _ (List.mem_of_getElem? (i := 1) rfl)) (gi_cons (lg_wsX7_tries_2 _ (List.mem_of_getElem? (i := 2) rfl)) (gi_cons (lg_wsX7_tries_2 _ (List.mem_of_getElem? (i := 3) rfl)) (gi_cons (lg_wsX7_tries_2 _ (List.mem_of_getElem? (i := 4) rfl)) (gi_cons (lg_wsX7_tries_2 _ (List.mem_of_getElem? (i := 5) rfl)) (gi_cons (lg_wsX7_tries_2 _ (List.mem_of_getElem? (i := 6) rfl)) (gi_cons (lg_wsX7_tries_2 _ (List.mem_of_getElem? (i := 7) rfl)) (gi_cons (lg_wsX7_tries_2 _ (List.mem_of_getElem? (i := 8) rfl)) (gi_cons (lg_wsX7_tries_2 _ (List.mem_of_getElem? (i := 9) rfl)) (gi_cons (lg_wsX7_tries_2 _ (List.mem_of_getElem? (i := 10) rfl)) (gi_cons (lg_wsX7_tries_2 _ (List.mem_of_getElem? (i := 11) rfl)) (gi_cons (lg_wsX7_tries_2 _ (List.mem_of_getElem? (i := 12) rfl)) (gi_cons (lg_wsX7_tries_1 _ (List.mem_of_getElem? (i := 1) rfl)) (gi_cons (lg_wsX7_tries_1 _ (List.mem_of_getElem? (i := 2) rfl)) gi_nil)))))))))))))))))))))))) (gi_cons (lg_wsX7_tries_1 _ (List.mem_of_getElem? (i := 3) rfl)) (gi_cons (lg_wsX7_tries_1 _ (List.mem_of_getElem? (i := 4) rfl)) (gi_cons (lg_wsX7_tries_0 _ (List.mem_of_getElem? (i := 1) rfl)) (gi_cons (lg_wsX7_tries_0 _ (List.mem_of_getElem? (i := 2) rfl)) (gi_cons (lg_wsX7_tries_0 _ (List.mem_of_getElem? (i := 4) rfl)) (gi_cons (lg_wsX7_tries_1 _ (List.mem_of_getElem? (i := 5) rfl)) (gi_cons (lg_wsX7_tries_1 _ (List.mem_of_getElem? (i := 6) rfl)) (gi_cons (lg_wsX7_tries_1 _ (List.mem_of_getElem? (i := 7) rfl)) (gi_cons (lg_wsX7_tries_1 _ (List.mem_of_getElem? (i := 8) rfl)) gi_nil)))))))))) ls_wsX7_tries_0))
set_option maxRecDepth 20000 in
theorem gX7_tries_X7_comesUp : GoodIn wsX7_tries (wsV RX7 99 RX7 yX7_comesUp wsX7_comesUp) := goodIn_app (gi_cons (lg_wsX7_tries_1 _ (List.mem_of_getElem? (i := 13) rfl)) (gi_cons (lg_wsX7_tries_1 _ (List.mem_of_getElem? (i := 14) rfl)) (gi_cons (lg_wsX7_tries_1 _ (List.mem_of_getElem? (i := 15) rfl)) (gi_cons (lg_wsX7_tries_0 _ (List.mem_of_getElem? (i := 3) rfl)) gi_nil)))) ggX7_tries_X7_comesUp
theorem dX7_tries_0 : decode cX7_tries 0 = .ok (.aload_n 0, 1) := by decide +kernel
theorem dX7_tries_1 : decode cX7_tries 1 = .ok (.getfield 7, 3) := by decide +kernel
theorem dX7_tries_4 : decode cX7_tries 4 = .ok (.iload_n 1, 1) := by decide +kernel
theorem dX7_tries_5 : decode cX7_tries 5 = .ok (.iconst 1, 1) := by decide +kernel
theorem dX7_tries_6 : decode cX7_tries 6 = .ok (.invokestatic 64, 3) := by decide +kernel
theorem dX7_tries_9 : decode cX7_tries 9 = .ok (.dup2, 1) := by decide +kernel
theorem dX7_tries_10 : decode cX7_tries 10 = .ok (.iaload, 1) := by decide +kernel
theorem dX7_tries_11 : decode cX7_tries 11 = .ok (.iconst 1, 1) := by decide +kernel
theorem dX7_tries_12 : decode cX7_tries 12 = .ok (.isub, 1) := by decide +kernel
theorem dX7_tries_13 : decode cX7_tries 13 = .ok (.iastore, 1) := by decide +kernel
theorem dX7_tries_14 : decode cX7_tries 14 = .ok (.aload_n 0, 1) := by decide +kernel
theorem dX7_tries_15 : decode cX7_tries 15 = .ok (.getfield 7, 3) := by decide +kernel
theorem dX7_tries_18 : decode cX7_tries 18 = .ok (.bipush 72, 2) := by decide +kernel
theorem dX7_tries_20 : decode cX7_tries 20 = .ok (.iload_n 2, 1) := by decide +kernel
theorem dX7_tries_21 : decode cX7_tries 21 = .ok (.iadd, 1) := by decide +kernel
theorem dX7_tries_22 : decode cX7_tries 22 = .ok (.iaload, 1) := by decide +kernel
theorem dX7_tries_23 : decode cX7_tries 23 = .ok (.ifCond .le 7, 3) := by decide +kernel
theorem dX7_tries_26 : decode cX7_tries 26 = .ok (.iconst 1, 1) := by decide +kernel
theorem dX7_tries_27 : decode cX7_tries 27 = .ok (.goto 4, 3) := by decide +kernel
theorem dX7_tries_30 : decode cX7_tries 30 = .ok (.iconst 0, 1) := by decide +kernel
theorem dX7_tries_31 : decode cX7_tries 31 = .ok (.istore_n 3, 1) := by decide +kernel
theorem dX7_tries_32 : decode cX7_tries 32 = .ok (.iload_n 3, 1) := by decide +kernel
theorem dX7_tries_33 : decode cX7_tries 33 = .ok (.ifCond .eq 29, 3) := by decide +kernel
theorem dX7_tries_36 : decode cX7_tries 36 = .ok (.aload_n 0, 1) := by decide +kernel
theorem dX7_tries_37 : decode cX7_tries 37 = .ok (.getfield 7, 3) := by decide +kernel
theorem dX7_tries_40 : decode cX7_tries 40 = .ok (.bipush 72, 2) := by decide +kernel
theorem dX7_tries_42 : decode cX7_tries 42 = .ok (.iload_n 2, 1) := by decide +kernel
theorem dX7_tries_43 : decode cX7_tries 43 = .ok (.iadd, 1) := by decide +kernel
theorem dX7_tries_44 : decode cX7_tries 44 = .ok (.dup2, 1) := by decide +kernel
theorem dX7_tries_45 : decode cX7_tries 45 = .ok (.iaload, 1) := by decide +kernel
theorem dX7_tries_46 : decode cX7_tries 46 = .ok (.iconst 1, 1) := by decide +kernel
theorem dX7_tries_47 : decode cX7_tries 47 = .ok (.isub, 1) := by decide +kernel
theorem dX7_tries_48 : decode cX7_tries 48 = .ok (.iastore, 1) := by decide +kernel
theorem dX7_tries_49 : decode cX7_tries 49 = .ok (.aload_n 0, 1) := by decide +kernel
theorem dX7_tries_50 : decode cX7_tries 50 = .ok (.getfield 7, 3) := by decide +kernel
theorem dX7_tries_53 : decode cX7_tries 53 = .ok (.iconst 3, 1) := by decide +kernel
theorem dX7_tries_54 : decode cX7_tries 54 = .ok (.dup2, 1) := by decide +kernel
theorem dX7_tries_55 : decode cX7_tries 55 = .ok (.iaload, 1) := by decide +kernel
theorem dX7_tries_56 : decode cX7_tries 56 = .ok (.iconst 1, 1) := by decide +kernel
theorem dX7_tries_57 : decode cX7_tries 57 = .ok (.iadd, 1) := by decide +kernel
theorem dX7_tries_58 : decode cX7_tries 58 = .ok (.iastore, 1) := by decide +kernel
theorem dX7_tries_59 : decode cX7_tries 59 = .ok (.goto 14, 3) := by decide +kernel
theorem dX7_tries_62 : decode cX7_tries 62 = .ok (.aload_n 0, 1) := by decide +kernel
theorem dX7_tries_63 : decode cX7_tries 63 = .ok (.iload_n 1, 1) := by decide +kernel
theorem dX7_tries_64 : decode cX7_tries 64 = .ok (.iload_n 2, 1) := by decide +kernel
theorem dX7_tries_65 : decode cX7_tries 65 = .ok (.invokevirtual 88, 3) := by decide +kernel
theorem dX7_tries_68 : decode cX7_tries 68 = .ok (.ifCond .eq 5, 3) := by decide +kernel
theorem dX7_tries_71 : decode cX7_tries 71 = .ok (.iconst 1, 1) := by decide +kernel
theorem dX7_tries_72 : decode cX7_tries 72 = .ok (.ireturn, 1) := by decide +kernel
theorem dX7_tries_73 : decode cX7_tries 73 = .ok (.aload_n 0, 1) := by decide +kernel
theorem dX7_tries_74 : decode cX7_tries 74 = .ok (.getfield 7, 3) := by decide +kernel
theorem dX7_tries_77 : decode cX7_tries 77 = .ok (.iload_n 1, 1) := by decide +kernel
theorem dX7_tries_78 : decode cX7_tries 78 = .ok (.iconst 0, 1) := by decide +kernel
theorem dX7_tries_79 : decode cX7_tries 79 = .ok (.invokestatic 64, 3) := by decide +kernel
theorem dX7_tries_82 : decode cX7_tries 82 = .ok (.iaload, 1) := by decide +kernel
theorem dX7_tries_83 : decode cX7_tries 83 = .ok (.istore 4, 2) := by decide +kernel
theorem dX7_tries_85 : decode cX7_tries 85 = .ok (.iload_n 3, 1) := by decide +kernel
theorem dX7_tries_86 : decode cX7_tries 86 = .ok (.ifCond .ne 20, 3) := by decide +kernel
theorem dX7_tries_89 : decode cX7_tries 89 = .ok (.aload_n 0, 1) := by decide +kernel
theorem dX7_tries_90 : decode cX7_tries 90 = .ok (.iload 4, 2) := by decide +kernel
theorem dX7_tries_92 : decode cX7_tries 92 = .ok (.invokevirtual 92, 3) := by decide +kernel
theorem dX7_tries_95 : decode cX7_tries 95 = .ok (.ifCond .eq 11, 3) := by decide +kernel
theorem dX7_tries_98 : decode cX7_tries 98 = .ok (.aload_n 0, 1) := by decide +kernel
theorem dX7_tries_99 : decode cX7_tries 99 = .ok (.iload_n 1, 1) := by decide +kernel
theorem dX7_tries_100 : decode cX7_tries 100 = .ok (.invokevirtual 96, 3) := by decide +kernel
theorem dX7_tries_103 : decode cX7_tries 103 = .ok (.goto 48, 3) := by decide +kernel
theorem dX7_tries_106 : decode cX7_tries 106 = .ok (.aload_n 0, 1) := by decide +kernel
theorem dX7_tries_107 : decode cX7_tries 107 = .ok (.getfield 7, 3) := by decide +kernel
theorem dX7_tries_110 : decode cX7_tries 110 = .ok (.iload_n 1, 1) := by decide +kernel
theorem dX7_tries_111 : decode cX7_tries 111 = .ok (.iconst 1, 1) := by decide +kernel
theorem dX7_tries_112 : decode cX7_tries 112 = .ok (.invokestatic 64, 3) := by decide +kernel
theorem dX7_tries_115 : decode cX7_tries 115 = .ok (.iaload, 1) := by decide +kernel
theorem dX7_tries_116 : decode cX7_tries 116 = .ok (.ifCond .ne 35, 3) := by decide +kernel
theorem dX7_tries_119 : decode cX7_tries 119 = .ok (.aload_n 0, 1) := by decide +kernel
theorem dX7_tries_120 : decode cX7_tries 120 = .ok (.iload 4, 2) := by decide +kernel
theorem dX7_tries_122 : decode cX7_tries 122 = .ok (.invokevirtual 92, 3) := by decide +kernel
theorem dX7_tries_125 : decode cX7_tries 125 = .ok (.ifCond .ne 9, 3) := by decide +kernel
theorem dX7_tries_128 : decode cX7_tries 128 = .ok (.aload_n 0, 1) := by decide +kernel
theorem dX7_tries_129 : decode cX7_tries 129 = .ok (.iload 4, 2) := by decide +kernel
theorem dX7_tries_131 : decode cX7_tries 131 = .ok (.invokevirtual 99, 3) := by decide +kernel
theorem dX7_tries_134 : decode cX7_tries 134 = .ok (.aload_n 0, 1) := by decide +kernel
theorem dX7_tries_135 : decode cX7_tries 135 = .ok (.getfield 7, 3) := by decide +kernel
theorem dX7_tries_138 : decode cX7_tries 138 = .ok (.iload_n 1, 1) := by decide +kernel
theorem dX7_tries_139 : decode cX7_tries 139 = .ok (.iconst 1, 1) := by decide +kernel
theorem dX7_tries_140 : decode cX7_tries 140 = .ok (.invokestatic 64, 3) := by decide +kernel
theorem dX7_tries_143 : decode cX7_tries 143 = .ok (.aload_n 0, 1) := by decide +kernel
theorem dX7_tries_144 : decode cX7_tries 144 = .ok (.getfield 7, 3) := by decide +kernel
theorem dX7_tries_147 : decode cX7_tries 147 = .ok (.bipush 6, 2) := by decide +kernel
theorem dX7_tries_149 : decode cX7_tries 149 = .ok (.iaload, 1) := by decide +kernel
theorem dX7_tries_150 : decode cX7_tries 150 = .ok (.iastore, 1) := by decide +kernel
theorem dX7_tries_151 : decode cX7_tries 151 = .ok (.iconst 0, 1) := by decide +kernel
theorem dX7_tries_152 : decode cX7_tries 152 = .ok (.ireturn, 1) := by decide +kernel
theorem lg_wsX7_acts_0 : GoodIn wsX7_acts wsX7_acts_r1 := goodIn_sub (fun _ h => (List.mem_cons_of_mem _ (List.mem_append_left _ (List.mem_append_left _ h)))) (by decide +kernel)
theorem lg_wsX7_acts_1 : GoodIn wsX7_acts wsX7_acts_r2 := goodIn_sub (fun _ h => (List.mem_cons_of_mem _ (List.mem_append_left _ (List.mem_append_right _ (List.mem_append_left _ h))))) (by decide +kernel)
theorem lg_wsX7_acts_2 : GoodIn wsX7_acts wsX7_acts_r3 := goodIn_sub (fun _ h => (List.mem_cons_of_mem _ (List.mem_append_left _ (List.mem_append_right _ (List.mem_append_right _ (List.mem_append_left _ h)))))) (by decide +kernel)
theorem lg_wsX7_acts_3 : GoodIn wsX7_acts wsX7_acts_r4 := goodIn_sub (fun _ h => (List.mem_cons_of_mem _ (List.mem_append_left _ (List.mem_append_right _ (List.mem_append_right _ (List.mem_append_right _ h)))))) (by decide +kernel)
theorem ls_wsX7_acts_0 : GoodIn wsX7_acts wsX70 := goodIn_sub (fun _ h => (List.mem_cons_of_mem _ (List.mem_append_right _ h))) (by decide +kernel)
set_option maxRecDepth 20000 in
theorem ggX7_acts_X7_of : GoodIn wsX7_acts wsX7_of := (gi_cons (lg_wsX7_acts_0 _ (List.mem_of_getElem? (i := 4) rfl)) gi_nil)
set_option maxRecDepth 20000 in
theorem gX7_acts_X7_of : GoodIn wsX7_acts (va_wsS RX7 64 yX7_of wsX7_of) := goodIn_app (gi_cons (lg_wsX7_acts_0 _ (List.mem_of_getElem? (i := 1) rfl)) (gi_cons (lg_wsX7_acts_0 _ (List.mem_of_getElem? (i := 2) rfl)) (gi_cons (lg_wsX7_acts_0 _ (List.mem_of_getElem? (i := 3) rfl)) gi_nil))) ggX7_acts_X7_of
set_option maxRecDepth 20000 in
theorem ggX7_acts_X7_rowStep : GoodIn wsX7_acts wsX7_rowStep := (gi_cons (lg_wsX7_acts_0 _ (List.mem_of_getElem? (i := 7) rfl)) gi_nil)
set_option maxRecDepth 20000 in
theorem gX7_acts_X7_rowStep : GoodIn wsX7_acts (va_wsS RX7 102 yX7_rowStep wsX7_rowStep) := goodIn_app (gi_cons (lg_wsX7_acts_0 _ (List.mem_of_getElem? (i := 5) rfl)) (gi_cons (lg_wsX7_acts_0 _ (List.mem_of_getElem? (i := 6) rfl)) (gi_cons (lg_wsX7_acts_0 _ (List.mem_of_getElem? (i := 3) rfl)) gi_nil))) ggX7_acts_X7_rowStep
set_option maxRecDepth 20000 in
theorem ggX7_acts_X7_columnStep : GoodIn wsX7_acts wsX7_columnStep := (gi_cons (lg_wsX7_acts_0 _ (List.mem_of_getElem? (i := 10) rfl)) gi_nil)
set_option maxRecDepth 20000 in
theorem gX7_acts_X7_columnStep : GoodIn wsX7_acts (va_wsS RX7 105 yX7_columnStep wsX7_columnStep) := goodIn_app (gi_cons (lg_wsX7_acts_0 _ (List.mem_of_getElem? (i := 8) rfl)) (gi_cons (lg_wsX7_acts_0 _ (List.mem_of_getElem? (i := 9) rfl)) (gi_cons (lg_wsX7_acts_0 _ (List.mem_of_getElem? (i := 3) rfl)) gi_nil))) ggX7_acts_X7_columnStep
set_option maxRecDepth 20000 in
theorem ggX7_acts_X7_in : GoodIn wsX7_acts wsX7_in := (gi_cons (lg_wsX7_acts_0 _ (List.mem_of_getElem? (i := 13) rfl)) gi_nil)
set_option maxRecDepth 20000 in
theorem gX7_acts_X7_in : GoodIn wsX7_acts (va_wsS RX7 42 yX7_in wsX7_in) := goodIn_app (gi_cons (lg_wsX7_acts_0 _ (List.mem_of_getElem? (i := 11) rfl)) (gi_cons (lg_wsX7_acts_0 _ (List.mem_of_getElem? (i := 12) rfl)) (gi_cons (lg_wsX7_acts_0 _ (List.mem_of_getElem? (i := 3) rfl)) gi_nil))) ggX7_acts_X7_in
set_option maxRecDepth 20000 in
theorem ggX7_acts_X7_takesOff : GoodIn wsX7_acts wsX7_takesOff := (gi_cons (lg_wsX7_acts_0 _ (List.mem_of_getElem? (i := 17) rfl)) (goodIn_app (gi_cons (lg_wsX7_acts_0 _ (List.mem_of_getElem? (i := 0) rfl)) (gi_cons (lg_wsX7_acts_0 _ (List.mem_of_getElem? (i := 1) rfl)) (gi_cons (lg_wsX7_acts_0 _ (List.mem_of_getElem? (i := 2) rfl)) (gi_cons (lg_wsX7_acts_0 _ (List.mem_of_getElem? (i := 3) rfl)) (gi_cons (lg_wsX7_acts_0 _ (List.mem_of_getElem? (i := 4) rfl)) gi_nil))))) ls_wsX7_acts_0))
set_option maxRecDepth 20000 in
theorem gX7_acts_X7_takesOff : GoodIn wsX7_acts (wsV RX7 82 RX7 yX7_takesOff wsX7_takesOff) := goodIn_app (gi_cons (lg_wsX7_acts_0 _ (List.mem_of_getElem? (i := 14) rfl)) (gi_cons (lg_wsX7_acts_0 _ (List.mem_of_getElem? (i := 15) rfl)) (gi_cons (lg_wsX7_acts_0 _ (List.mem_of_getElem? (i := 16) rfl)) (gi_cons (lg_wsX7_acts_0 _ (List.mem_of_getElem? (i := 3) rfl)) gi_nil)))) ggX7_acts_X7_takesOff
set_option maxRecDepth 20000 in
theorem ggX7_acts_X7_tries : GoodIn wsX7_acts wsX7_tries := (gi_cons (lg_wsX7_acts_0 _ (List.mem_of_getElem? (i := 21) rfl)) (goodIn_app (goodIn_app (gi_cons (lg_wsX7_acts_0 _ (List.mem_of_getElem? (i := 0) rfl)) (gi_cons (lg_wsX7_acts_0 _ (List.mem_of_getElem? (i := 1) rfl)) (gi_cons (lg_wsX7_acts_0 _ (List.mem_of_getElem? (i := 2) rfl)) (gi_cons (lg_wsX7_acts_0 _ (List.mem_of_getElem? (i := 3) rfl)) (gi_cons (lg_wsX7_acts_0 _ (List.mem_of_getElem? (i := 4) rfl)) (gi_cons (lg_wsX7_acts_0 _ (List.mem_of_getElem? (i := 22) rfl)) (gi_cons (lg_wsX7_acts_0 _ (List.mem_of_getElem? (i := 23) rfl)) (gi_cons (lg_wsX7_acts_1 _ (List.mem_of_getElem? (i := 0) rfl)) (gi_cons (lg_wsX7_acts_1 _ (List.mem_of_getElem? (i := 1) rfl)) (gi_cons (lg_wsX7_acts_0 _ (List.mem_of_getElem? (i := 14) rfl)) (gi_cons (lg_wsX7_acts_0 _ (List.mem_of_getElem? (i := 15) rfl)) (gi_cons (lg_wsX7_acts_0 _ (List.mem_of_getElem? (i := 16) rfl)) (gi_cons (lg_wsX7_acts_0 _ (List.mem_of_getElem? (i := 17) rfl)) (gi_cons (lg_wsX7_acts_1 _ (List.mem_of_getElem? (i := 2) rfl)) (gi_cons (lg_wsX7_acts_1 _ (List.mem_of_getElem? (i := 3) rfl)) (gi_cons (lg_wsX7_acts_1 _ (List.mem_of_getElem? (i := 4) rfl)) (gi_cons (lg_wsX7_acts_1 _ (List.mem_of_getElem? (i := 5) rfl)) (gi_cons (lg_wsX7_acts_1 _ (List.mem_of_getElem? (i := 6) rfl)) (gi_cons (lg_wsX7_acts_1 _ (List.mem_of_getElem? (i := 7) rfl)) (gi_cons (lg_wsX7_acts_1 _ (List.mem_of_getElem? (i := 8) rfl)) (gi_cons (lg_wsX7_acts_1 _ (List.mem_of_getElem? (i := 9) rfl)) (gi_cons (lg_wsX7_acts_1 _ (List.mem_of_getElem? (i := 10) rfl)) (gi_cons (lg_wsX7_acts_1 _ (List.mem_of_getElem? (i := 11) rfl)) (gi_cons (lg_wsX7_acts_1 _ (List.mem_of_getElem? (i := 12) rfl)) gi_nil)))))))))))))))))))))))) (goodIn_app (gi_cons (lg_wsX7_acts_1 _ (List.mem_of_getElem? (i := 13) rfl)) (gi_cons (lg_wsX7_acts_1 _ (List.mem_of_getElem? (i := 14) rfl)) (gi_cons (lg_wsX7_acts_1 _ (List.mem_of_getElem? (i := 15) rfl)) (gi_cons (lg_wsX7_acts_1 _ (List.mem_of_getElem? (i := 16) rfl)) (gi_cons (lg_wsX7_acts_1 _ (List.mem_of_getElem? (i := 17) rfl)) (gi_cons (lg_wsX7_acts_1 _ (List.mem_of_getElem? (i := 18) rfl)) (gi_cons (lg_wsX7_acts_1 _ (List.mem_of_getElem? (i := 19) rfl)) (gi_cons (lg_wsX7_acts_1 _ (List.mem_of_getElem? (i := 20) rfl)) (gi_cons (lg_wsX7_acts_1 _ (List.mem_of_getElem? (i := 21) rfl)) (gi_cons (lg_wsX7_acts_1 _ (List.mem_of_getElem? (i := 22) rfl)) (gi_cons (lg_wsX7_acts_1 _ (List.mem_of_getElem? (i := 23) rfl)) (gi_cons (lg_wsX7_acts_2 _ (List.mem_of_getElem? (i := 0) rfl)) (gi_cons (lg_wsX7_acts_2 _ (List.mem_of_getElem? (i := 1) rfl)) (gi_cons (lg_wsX7_acts_2 _ (List.mem_of_getElem? (i := 2) rfl)) (gi_cons (lg_wsX7_acts_2 _ (List.mem_of_getElem? (i := 3) rfl)) (gi_cons (lg_wsX7_acts_2 _ (List.mem_of_getElem? (i := 4) rfl)) (gi_cons (lg_wsX7_acts_2 _ (List.mem_of_getElem? (i := 5) rfl)) (gi_cons (lg_wsX7_acts_2 _ (List.mem_of_getElem? (i := 6) rfl)) (gi_cons (lg_wsX7_acts_2 _ (List.mem_of_getElem? (i := 7) rfl)) (gi_cons (lg_wsX7_acts_2 _ (List.mem_of_getElem? (i := 8) rfl)) (gi_cons (lg_wsX7_acts_2 _ (List.mem_of_getElem? (i := 9) rfl)) (gi_cons (lg_wsX7_acts_2 _ (List.mem_of_getElem? (i := 10) rfl)) (gi_cons (lg_wsX7_acts_2 _ (List.mem_of_getElem? (i := 11) rfl)) (gi_cons (lg_wsX7_acts_2 _ (List.mem_of_getElem? (i := 12) rfl)) gi_nil)))))))))))))))))))))))) (gi_cons (lg_wsX7_acts_2 _ (List.mem_of_getElem? (i := 13) rfl)) (gi_cons (lg_wsX7_acts_2 _ (List.mem_of_getElem? (i := 14) rfl)) (gi_cons (lg_wsX7_acts_2 _ (List.mem_of_getElem? (i := 15) rfl)) (gi_cons (lg_wsX7_acts_2 _ (List.mem_of_getElem? (i := 16) rfl)) (gi_cons (lg_wsX7_acts_2 _ (List.mem_of_getElem? (i := 17) rfl)) (gi_cons (lg_wsX7_acts_2 _ (List.mem_of_getElem? (i := 18) rfl)) (gi_cons (lg_wsX7_acts_2 _ (List.mem_of_getElem? (i := 19) rfl)) (gi_cons (lg_wsX7_acts_2 _ (List.mem_of_getElem? (i := 20) rfl)) (gi_cons (lg_wsX7_acts_2 _ (List.mem_of_getElem? (i := 21) rfl)) (gi_cons (lg_wsX7_acts_2 _ (List.mem_of_getElem? (i := 22) rfl)) (gi_cons (lg_wsX7_acts_2 _ (List.mem_of_getElem? (i := 23) rfl)) (gi_cons (lg_wsX7_acts_3 _ (List.mem_of_getElem? (i := 0) rfl)) (gi_cons (lg_wsX7_acts_3 _ (List.mem_of_getElem? (i := 1) rfl)) gi_nil))))))))))))))) ls_wsX7_acts_0))
set_option maxRecDepth 20000 in
theorem gX7_acts_X7_tries : GoodIn wsX7_acts (wsV RX7 108 RX7 yX7_tries wsX7_tries) := goodIn_app (gi_cons (lg_wsX7_acts_0 _ (List.mem_of_getElem? (i := 18) rfl)) (gi_cons (lg_wsX7_acts_0 _ (List.mem_of_getElem? (i := 19) rfl)) (gi_cons (lg_wsX7_acts_0 _ (List.mem_of_getElem? (i := 20) rfl)) (gi_cons (lg_wsX7_acts_0 _ (List.mem_of_getElem? (i := 3) rfl)) gi_nil)))) ggX7_acts_X7_tries
theorem dX7_acts_0 : decode cX7_acts 0 = .ok (.aload_n 0, 1) := by decide +kernel
theorem dX7_acts_1 : decode cX7_acts 1 = .ok (.getfield 7, 3) := by decide +kernel
theorem dX7_acts_4 : decode cX7_acts 4 = .ok (.iload_n 1, 1) := by decide +kernel
theorem dX7_acts_5 : decode cX7_acts 5 = .ok (.iconst 2, 1) := by decide +kernel
theorem dX7_acts_6 : decode cX7_acts 6 = .ok (.invokestatic 64, 3) := by decide +kernel
theorem dX7_acts_9 : decode cX7_acts 9 = .ok (.iaload, 1) := by decide +kernel
theorem dX7_acts_10 : decode cX7_acts 10 = .ok (.ifCond .ne 5, 3) := by decide +kernel
theorem dX7_acts_13 : decode cX7_acts 13 = .ok (.iconst 0, 1) := by decide +kernel
theorem dX7_acts_14 : decode cX7_acts 14 = .ok (.ireturn, 1) := by decide +kernel
theorem dX7_acts_15 : decode cX7_acts 15 = .ok (.aload_n 0, 1) := by decide +kernel
theorem dX7_acts_16 : decode cX7_acts 16 = .ok (.getfield 7, 3) := by decide +kernel
theorem dX7_acts_19 : decode cX7_acts 19 = .ok (.iload_n 1, 1) := by decide +kernel
theorem dX7_acts_20 : decode cX7_acts 20 = .ok (.iconst 3, 1) := by decide +kernel
theorem dX7_acts_21 : decode cX7_acts 21 = .ok (.invokestatic 64, 3) := by decide +kernel
theorem dX7_acts_24 : decode cX7_acts 24 = .ok (.iaload, 1) := by decide +kernel
theorem dX7_acts_25 : decode cX7_acts 25 = .ok (.istore_n 2, 1) := by decide +kernel
theorem dX7_acts_26 : decode cX7_acts 26 = .ok (.aload_n 0, 1) := by decide +kernel
theorem dX7_acts_27 : decode cX7_acts 27 = .ok (.getfield 7, 3) := by decide +kernel
theorem dX7_acts_30 : decode cX7_acts 30 = .ok (.iload_n 1, 1) := by decide +kernel
theorem dX7_acts_31 : decode cX7_acts 31 = .ok (.iconst 0, 1) := by decide +kernel
theorem dX7_acts_32 : decode cX7_acts 32 = .ok (.invokestatic 64, 3) := by decide +kernel
theorem dX7_acts_35 : decode cX7_acts 35 = .ok (.iaload, 1) := by decide +kernel
theorem dX7_acts_36 : decode cX7_acts 36 = .ok (.bipush 8, 2) := by decide +kernel
theorem dX7_acts_38 : decode cX7_acts 38 = .ok (.idiv, 1) := by decide +kernel
theorem dX7_acts_39 : decode cX7_acts 39 = .ok (.iload_n 2, 1) := by decide +kernel
theorem dX7_acts_40 : decode cX7_acts 40 = .ok (.invokestatic 102, 3) := by decide +kernel
theorem dX7_acts_43 : decode cX7_acts 43 = .ok (.iadd, 1) := by decide +kernel
theorem dX7_acts_44 : decode cX7_acts 44 = .ok (.istore_n 3, 1) := by decide +kernel
theorem dX7_acts_45 : decode cX7_acts 45 = .ok (.aload_n 0, 1) := by decide +kernel
theorem dX7_acts_46 : decode cX7_acts 46 = .ok (.getfield 7, 3) := by decide +kernel
theorem dX7_acts_49 : decode cX7_acts 49 = .ok (.iload_n 1, 1) := by decide +kernel
theorem dX7_acts_50 : decode cX7_acts 50 = .ok (.iconst 0, 1) := by decide +kernel
theorem dX7_acts_51 : decode cX7_acts 51 = .ok (.invokestatic 64, 3) := by decide +kernel
theorem dX7_acts_54 : decode cX7_acts 54 = .ok (.iaload, 1) := by decide +kernel
theorem dX7_acts_55 : decode cX7_acts 55 = .ok (.bipush 8, 2) := by decide +kernel
theorem dX7_acts_57 : decode cX7_acts 57 = .ok (.irem, 1) := by decide +kernel
theorem dX7_acts_58 : decode cX7_acts 58 = .ok (.iload_n 2, 1) := by decide +kernel
theorem dX7_acts_59 : decode cX7_acts 59 = .ok (.invokestatic 105, 3) := by decide +kernel
theorem dX7_acts_62 : decode cX7_acts 62 = .ok (.iadd, 1) := by decide +kernel
theorem dX7_acts_63 : decode cX7_acts 63 = .ok (.istore 4, 2) := by decide +kernel
theorem dX7_acts_65 : decode cX7_acts 65 = .ok (.iload_n 3, 1) := by decide +kernel
theorem dX7_acts_66 : decode cX7_acts 66 = .ok (.iconst 0, 1) := by decide +kernel
theorem dX7_acts_67 : decode cX7_acts 67 = .ok (.bipush 7, 2) := by decide +kernel
theorem dX7_acts_69 : decode cX7_acts 69 = .ok (.invokestatic 42, 3) := by decide +kernel
theorem dX7_acts_72 : decode cX7_acts 72 = .ok (.ifCond .eq 14, 3) := by decide +kernel
theorem dX7_acts_75 : decode cX7_acts 75 = .ok (.iload 4, 2) := by decide +kernel
theorem dX7_acts_77 : decode cX7_acts 77 = .ok (.iconst 0, 1) := by decide +kernel
theorem dX7_acts_78 : decode cX7_acts 78 = .ok (.bipush 7, 2) := by decide +kernel
theorem dX7_acts_80 : decode cX7_acts 80 = .ok (.invokestatic 42, 3) := by decide +kernel
theorem dX7_acts_83 : decode cX7_acts 83 = .ok (.ifCond .ne 10, 3) := by decide +kernel
theorem dX7_acts_86 : decode cX7_acts 86 = .ok (.aload_n 0, 1) := by decide +kernel
theorem dX7_acts_87 : decode cX7_acts 87 = .ok (.iload_n 1, 1) := by decide +kernel
theorem dX7_acts_88 : decode cX7_acts 88 = .ok (.invokevirtual 82, 3) := by decide +kernel
theorem dX7_acts_91 : decode cX7_acts 91 = .ok (.iconst 0, 1) := by decide +kernel
theorem dX7_acts_92 : decode cX7_acts 92 = .ok (.ireturn, 1) := by decide +kernel
theorem dX7_acts_93 : decode cX7_acts 93 = .ok (.aload_n 0, 1) := by decide +kernel
theorem dX7_acts_94 : decode cX7_acts 94 = .ok (.iload_n 1, 1) := by decide +kernel
theorem dX7_acts_95 : decode cX7_acts 95 = .ok (.bipush 8, 2) := by decide +kernel
theorem dX7_acts_97 : decode cX7_acts 97 = .ok (.iload_n 3, 1) := by decide +kernel
theorem dX7_acts_98 : decode cX7_acts 98 = .ok (.imul, 1) := by decide +kernel
theorem dX7_acts_99 : decode cX7_acts 99 = .ok (.iload 4, 2) := by decide +kernel
theorem dX7_acts_101 : decode cX7_acts 101 = .ok (.iadd, 1) := by decide +kernel
theorem dX7_acts_102 : decode cX7_acts 102 = .ok (.invokevirtual 108, 3) := by decide +kernel
theorem dX7_acts_105 : decode cX7_acts 105 = .ok (.ireturn, 1) := by decide +kernel
theorem lg_wsX7_beat_0 : GoodIn wsX7_beat wsX7_beat_r1 := goodIn_sub (fun _ h => (List.mem_cons_of_mem _ (List.mem_append_left _ (List.mem_append_left _ h)))) (by decide +kernel)
theorem lg_wsX7_beat_1 : GoodIn wsX7_beat wsX7_beat_r2 := goodIn_sub (fun _ h => (List.mem_cons_of_mem _ (List.mem_append_left _ (List.mem_append_right _ (List.mem_append_left _ h))))) (by decide +kernel)
theorem lg_wsX7_beat_2 : GoodIn wsX7_beat wsX7_beat_r3 := goodIn_sub (fun _ h => (List.mem_cons_of_mem _ (List.mem_append_left _ (List.mem_append_right _ (List.mem_append_right _ (List.mem_append_left _ h)))))) (by decide +kernel)
theorem lg_wsX7_beat_3 : GoodIn wsX7_beat wsX7_beat_r4 := goodIn_sub (fun _ h => (List.mem_cons_of_mem _ (List.mem_append_left _ (List.mem_append_right _ (List.mem_append_right _ (List.mem_append_right _ h)))))) (by decide +kernel)
theorem ls_wsX7_beat_0 : GoodIn wsX7_beat wsX70 := goodIn_sub (fun _ h => (List.mem_cons_of_mem _ (List.mem_append_right _ h))) (by decide +kernel)
set_option maxRecDepth 20000 in
theorem ggX7_beat_X7_acts : GoodIn wsX7_beat wsX7_acts := (gi_cons (lg_wsX7_beat_0 _ (List.mem_of_getElem? (i := 5) rfl)) (goodIn_app (goodIn_app (gi_cons (lg_wsX7_beat_0 _ (List.mem_of_getElem? (i := 0) rfl)) (gi_cons (lg_wsX7_beat_0 _ (List.mem_of_getElem? (i := 6) rfl)) (gi_cons (lg_wsX7_beat_0 _ (List.mem_of_getElem? (i := 7) rfl)) (gi_cons (lg_wsX7_beat_0 _ (List.mem_of_getElem? (i := 4) rfl)) (gi_cons (lg_wsX7_beat_0 _ (List.mem_of_getElem? (i := 8) rfl)) (gi_cons (lg_wsX7_beat_0 _ (List.mem_of_getElem? (i := 9) rfl)) (gi_cons (lg_wsX7_beat_0 _ (List.mem_of_getElem? (i := 10) rfl)) (gi_cons (lg_wsX7_beat_0 _ (List.mem_of_getElem? (i := 11) rfl)) (gi_cons (lg_wsX7_beat_0 _ (List.mem_of_getElem? (i := 12) rfl)) (gi_cons (lg_wsX7_beat_0 _ (List.mem_of_getElem? (i := 13) rfl)) (gi_cons (lg_wsX7_beat_0 _ (List.mem_of_getElem? (i := 14) rfl)) (gi_cons (lg_wsX7_beat_0 _ (List.mem_of_getElem? (i := 15) rfl)) (gi_cons (lg_wsX7_beat_0 _ (List.mem_of_getElem? (i := 16) rfl)) (gi_cons (lg_wsX7_beat_0 _ (List.mem_of_getElem? (i := 17) rfl)) (gi_cons (lg_wsX7_beat_0 _ (List.mem_of_getElem? (i := 18) rfl)) (gi_cons (lg_wsX7_beat_0 _ (List.mem_of_getElem? (i := 19) rfl)) (gi_cons (lg_wsX7_beat_0 _ (List.mem_of_getElem? (i := 20) rfl)) (gi_cons (lg_wsX7_beat_0 _ (List.mem_of_getElem? (i := 21) rfl)) (gi_cons (lg_wsX7_beat_0 _ (List.mem_of_getElem? (i := 22) rfl)) (gi_cons (lg_wsX7_beat_0 _ (List.mem_of_getElem? (i := 23) rfl)) (gi_cons (lg_wsX7_beat_1 _ (List.mem_of_getElem? (i := 0) rfl)) (gi_cons (lg_wsX7_beat_1 _ (List.mem_of_getElem? (i := 1) rfl)) (gi_cons (lg_wsX7_beat_1 _ (List.mem_of_getElem? (i := 2) rfl)) (gi_cons (lg_wsX7_beat_1 _ (List.mem_of_getElem? (i := 3) rfl)) gi_nil)))))))))))))))))))))))) (goodIn_app (gi_cons (lg_wsX7_beat_1 _ (List.mem_of_getElem? (i := 4) rfl)) (gi_cons (lg_wsX7_beat_1 _ (List.mem_of_getElem? (i := 5) rfl)) (gi_cons (lg_wsX7_beat_1 _ (List.mem_of_getElem? (i := 6) rfl)) (gi_cons (lg_wsX7_beat_1 _ (List.mem_of_getElem? (i := 7) rfl)) (gi_cons (lg_wsX7_beat_1 _ (List.mem_of_getElem? (i := 8) rfl)) (gi_cons (lg_wsX7_beat_1 _ (List.mem_of_getElem? (i := 9) rfl)) (gi_cons (lg_wsX7_beat_1 _ (List.mem_of_getElem? (i := 10) rfl)) (gi_cons (lg_wsX7_beat_1 _ (List.mem_of_getElem? (i := 11) rfl)) (gi_cons (lg_wsX7_beat_1 _ (List.mem_of_getElem? (i := 12) rfl)) (gi_cons (lg_wsX7_beat_1 _ (List.mem_of_getElem? (i := 13) rfl)) (gi_cons (lg_wsX7_beat_1 _ (List.mem_of_getElem? (i := 14) rfl)) (gi_cons (lg_wsX7_beat_1 _ (List.mem_of_getElem? (i := 15) rfl)) (gi_cons (lg_wsX7_beat_1 _ (List.mem_of_getElem? (i := 16) rfl)) (gi_cons (lg_wsX7_beat_1 _ (List.mem_of_getElem? (i := 17) rfl)) (gi_cons (lg_wsX7_beat_1 _ (List.mem_of_getElem? (i := 18) rfl)) (gi_cons (lg_wsX7_beat_1 _ (List.mem_of_getElem? (i := 19) rfl)) (gi_cons (lg_wsX7_beat_1 _ (List.mem_of_getElem? (i := 20) rfl)) (gi_cons (lg_wsX7_beat_1 _ (List.mem_of_getElem? (i := 21) rfl)) (gi_cons (lg_wsX7_beat_1 _ (List.mem_of_getElem? (i := 22) rfl)) (gi_cons (lg_wsX7_beat_1 _ (List.mem_of_getElem? (i := 23) rfl)) (gi_cons (lg_wsX7_beat_2 _ (List.mem_of_getElem? (i := 0) rfl)) (gi_cons (lg_wsX7_beat_2 _ (List.mem_of_getElem? (i := 1) rfl)) (gi_cons (lg_wsX7_beat_2 _ (List.mem_of_getElem? (i := 2) rfl)) (gi_cons (lg_wsX7_beat_2 _ (List.mem_of_getElem? (i := 3) rfl)) gi_nil)))))))))))))))))))))))) (goodIn_app (gi_cons (lg_wsX7_beat_2 _ (List.mem_of_getElem? (i := 4) rfl)) (gi_cons (lg_wsX7_beat_2 _ (List.mem_of_getElem? (i := 5) rfl)) (gi_cons (lg_wsX7_beat_2 _ (List.mem_of_getElem? (i := 6) rfl)) (gi_cons (lg_wsX7_beat_2 _ (List.mem_of_getElem? (i := 7) rfl)) (gi_cons (lg_wsX7_beat_2 _ (List.mem_of_getElem? (i := 8) rfl)) (gi_cons (lg_wsX7_beat_2 _ (List.mem_of_getElem? (i := 9) rfl)) (gi_cons (lg_wsX7_beat_2 _ (List.mem_of_getElem? (i := 10) rfl)) (gi_cons (lg_wsX7_beat_2 _ (List.mem_of_getElem? (i := 11) rfl)) (gi_cons (lg_wsX7_beat_2 _ (List.mem_of_getElem? (i := 12) rfl)) (gi_cons (lg_wsX7_beat_2 _ (List.mem_of_getElem? (i := 13) rfl)) (gi_cons (lg_wsX7_beat_2 _ (List.mem_of_getElem? (i := 14) rfl)) (gi_cons (lg_wsX7_beat_2 _ (List.mem_of_getElem? (i := 15) rfl)) (gi_cons (lg_wsX7_beat_2 _ (List.mem_of_getElem? (i := 16) rfl)) (gi_cons (lg_wsX7_beat_2 _ (List.mem_of_getElem? (i := 17) rfl)) (gi_cons (lg_wsX7_beat_2 _ (List.mem_of_getElem? (i := 18) rfl)) (gi_cons (lg_wsX7_beat_2 _ (List.mem_of_getElem? (i := 19) rfl)) (gi_cons (lg_wsX7_beat_2 _ (List.mem_of_getElem? (i := 20) rfl)) (gi_cons (lg_wsX7_beat_2 _ (List.mem_of_getElem? (i := 21) rfl)) (gi_cons (lg_wsX7_beat_2 _ (List.mem_of_getElem? (i := 22) rfl)) (gi_cons (lg_wsX7_beat_2 _ (List.mem_of_getElem? (i := 23) rfl)) (gi_cons (lg_wsX7_beat_3 _ (List.mem_of_getElem? (i := 0) rfl)) (gi_cons (lg_wsX7_beat_3 _ (List.mem_of_getElem? (i := 1) rfl)) (gi_cons (lg_wsX7_beat_3 _ (List.mem_of_getElem? (i := 2) rfl)) (gi_cons (lg_wsX7_beat_3 _ (List.mem_of_getElem? (i := 3) rfl)) gi_nil)))))))))))))))))))))))) (gi_cons (lg_wsX7_beat_3 _ (List.mem_of_getElem? (i := 4) rfl)) (gi_cons (lg_wsX7_beat_3 _ (List.mem_of_getElem? (i := 5) rfl)) gi_nil))))) ls_wsX7_beat_0))
set_option maxRecDepth 20000 in
theorem gX7_beat_X7_acts : GoodIn wsX7_beat (wsV RX7 111 RX7 yX7_acts wsX7_acts) := goodIn_app (gi_cons (lg_wsX7_beat_0 _ (List.mem_of_getElem? (i := 1) rfl)) (gi_cons (lg_wsX7_beat_0 _ (List.mem_of_getElem? (i := 2) rfl)) (gi_cons (lg_wsX7_beat_0 _ (List.mem_of_getElem? (i := 3) rfl)) (gi_cons (lg_wsX7_beat_0 _ (List.mem_of_getElem? (i := 4) rfl)) gi_nil)))) ggX7_beat_X7_acts
theorem dX7_beat_0 : decode cX7_beat 0 = .ok (.iconst 0, 1) := by decide +kernel
theorem dX7_beat_1 : decode cX7_beat 1 = .ok (.istore_n 1, 1) := by decide +kernel
theorem dX7_beat_2 : decode cX7_beat 2 = .ok (.iload_n 1, 1) := by decide +kernel
theorem dX7_beat_3 : decode cX7_beat 3 = .ok (.bipush 64, 2) := by decide +kernel
theorem dX7_beat_5 : decode cX7_beat 5 = .ok (.if_icmp .ge 40, 3) := by decide +kernel
theorem dX7_beat_8 : decode cX7_beat 8 = .ok (.aload_n 0, 1) := by decide +kernel
theorem dX7_beat_9 : decode cX7_beat 9 = .ok (.getfield 7, 3) := by decide +kernel
theorem dX7_beat_12 : decode cX7_beat 12 = .ok (.sipush 136, 3) := by decide +kernel
theorem dX7_beat_15 : decode cX7_beat 15 = .ok (.iload_n 1, 1) := by decide +kernel
theorem dX7_beat_16 : decode cX7_beat 16 = .ok (.iadd, 1) := by decide +kernel
theorem dX7_beat_17 : decode cX7_beat 17 = .ok (.dup2, 1) := by decide +kernel
theorem dX7_beat_18 : decode cX7_beat 18 = .ok (.iaload, 1) := by decide +kernel
theorem dX7_beat_19 : decode cX7_beat 19 = .ok (.aload_n 0, 1) := by decide +kernel
theorem dX7_beat_20 : decode cX7_beat 20 = .ok (.getfield 7, 3) := by decide +kernel
theorem dX7_beat_23 : decode cX7_beat 23 = .ok (.sipush 136, 3) := by decide +kernel
theorem dX7_beat_26 : decode cX7_beat 26 = .ok (.iload_n 1, 1) := by decide +kernel
theorem dX7_beat_27 : decode cX7_beat 27 = .ok (.iadd, 1) := by decide +kernel
theorem dX7_beat_28 : decode cX7_beat 28 = .ok (.iaload, 1) := by decide +kernel
theorem dX7_beat_29 : decode cX7_beat 29 = .ok (.ifCond .le 7, 3) := by decide +kernel
theorem dX7_beat_32 : decode cX7_beat 32 = .ok (.iconst 1, 1) := by decide +kernel
theorem dX7_beat_33 : decode cX7_beat 33 = .ok (.goto 4, 3) := by decide +kernel
theorem dX7_beat_36 : decode cX7_beat 36 = .ok (.iconst 0, 1) := by decide +kernel
theorem dX7_beat_37 : decode cX7_beat 37 = .ok (.isub, 1) := by decide +kernel
theorem dX7_beat_38 : decode cX7_beat 38 = .ok (.iastore, 1) := by decide +kernel
theorem dX7_beat_39 : decode cX7_beat 39 = .ok (.iinc 1 1, 3) := by decide +kernel
theorem dX7_beat_42 : decode cX7_beat 42 = .ok (.goto (-40), 3) := by decide +kernel
theorem dX7_beat_45 : decode cX7_beat 45 = .ok (.iconst 0, 1) := by decide +kernel
theorem dX7_beat_46 : decode cX7_beat 46 = .ok (.istore_n 1, 1) := by decide +kernel
theorem dX7_beat_47 : decode cX7_beat 47 = .ok (.iload_n 1, 1) := by decide +kernel
theorem dX7_beat_48 : decode cX7_beat 48 = .ok (.aload_n 0, 1) := by decide +kernel
theorem dX7_beat_49 : decode cX7_beat 49 = .ok (.getfield 7, 3) := by decide +kernel
theorem dX7_beat_52 : decode cX7_beat 52 = .ok (.iconst 1, 1) := by decide +kernel
theorem dX7_beat_53 : decode cX7_beat 53 = .ok (.iaload, 1) := by decide +kernel
theorem dX7_beat_54 : decode cX7_beat 54 = .ok (.if_icmp .ge 22, 3) := by decide +kernel
theorem dX7_beat_57 : decode cX7_beat 57 = .ok (.iload_n 1, 1) := by decide +kernel
theorem dX7_beat_58 : decode cX7_beat 58 = .ok (.aload_n 0, 1) := by decide +kernel
theorem dX7_beat_59 : decode cX7_beat 59 = .ok (.iload_n 1, 1) := by decide +kernel
theorem dX7_beat_60 : decode cX7_beat 60 = .ok (.invokevirtual 111, 3) := by decide +kernel
theorem dX7_beat_63 : decode cX7_beat 63 = .ok (.ifCond .eq 7, 3) := by decide +kernel
theorem dX7_beat_66 : decode cX7_beat 66 = .ok (.iconst 0, 1) := by decide +kernel
theorem dX7_beat_67 : decode cX7_beat 67 = .ok (.goto 4, 3) := by decide +kernel
theorem dX7_beat_70 : decode cX7_beat 70 = .ok (.iconst 1, 1) := by decide +kernel
theorem dX7_beat_71 : decode cX7_beat 71 = .ok (.iadd, 1) := by decide +kernel
theorem dX7_beat_72 : decode cX7_beat 72 = .ok (.istore_n 1, 1) := by decide +kernel
theorem dX7_beat_73 : decode cX7_beat 73 = .ok (.goto (-26), 3) := by decide +kernel
theorem dX7_beat_76 : decode cX7_beat 76 = .ok (.aload_n 0, 1) := by decide +kernel
theorem dX7_beat_77 : decode cX7_beat 77 = .ok (.getfield 7, 3) := by decide +kernel
theorem dX7_beat_80 : decode cX7_beat 80 = .ok (.iconst 0, 1) := by decide +kernel
theorem dX7_beat_81 : decode cX7_beat 81 = .ok (.dup2, 1) := by decide +kernel
theorem dX7_beat_82 : decode cX7_beat 82 = .ok (.iaload, 1) := by decide +kernel
theorem dX7_beat_83 : decode cX7_beat 83 = .ok (.iconst 1, 1) := by decide +kernel
theorem dX7_beat_84 : decode cX7_beat 84 = .ok (.iadd, 1) := by decide +kernel
theorem dX7_beat_85 : decode cX7_beat 85 = .ok (.iastore, 1) := by decide +kernel
theorem dX7_beat_86 : decode cX7_beat 86 = .ok (.return_, 1) := by decide +kernel
theorem lg_wsX7_beats_0 : GoodIn wsX7_beats wsX7_beats_r1 := goodIn_sub (fun _ h => (List.mem_cons_of_mem _ (List.mem_append_left _ (List.mem_append_left _ h)))) (by decide +kernel)
theorem lg_wsX7_beats_1 : GoodIn wsX7_beats wsX7_beats_r2 := goodIn_sub (fun _ h => (List.mem_cons_of_mem _ (List.mem_append_left _ (List.mem_append_right _ (List.mem_append_left _ h))))) (by decide +kernel)
theorem lg_wsX7_beats_2 : GoodIn wsX7_beats wsX7_beats_r3 := goodIn_sub (fun _ h => (List.mem_cons_of_mem _ (List.mem_append_left _ (List.mem_append_right _ (List.mem_append_right _ (List.mem_append_left _ h)))))) (by decide +kernel)
theorem lg_wsX7_beats_3 : GoodIn wsX7_beats wsX7_beats_r4 := goodIn_sub (fun _ h => (List.mem_cons_of_mem _ (List.mem_append_left _ (List.mem_append_right _ (List.mem_append_right _ (List.mem_append_right _ h)))))) (by decide +kernel)
theorem ls_wsX7_beats_0 : GoodIn wsX7_beats wsX70 := goodIn_sub (fun _ h => (List.mem_cons_of_mem _ (List.mem_append_right _ h))) (by decide +kernel)
set_option maxRecDepth 20000 in
theorem ggX7_beats_X7_beat : GoodIn wsX7_beats wsX7_beat := (gi_cons (lg_wsX7_beats_0 _ (List.mem_of_getElem? (i := 5) rfl)) (goodIn_app (goodIn_app (gi_cons (lg_wsX7_beats_0 _ (List.mem_of_getElem? (i := 0) rfl)) (gi_cons (lg_wsX7_beats_0 _ (List.mem_of_getElem? (i := 6) rfl)) (gi_cons (lg_wsX7_beats_0 _ (List.mem_of_getElem? (i := 7) rfl)) (gi_cons (lg_wsX7_beats_0 _ (List.mem_of_getElem? (i := 8) rfl)) (gi_cons (lg_wsX7_beats_0 _ (List.mem_of_getElem? (i := 4) rfl)) (gi_cons (lg_wsX7_beats_0 _ (List.mem_of_getElem? (i := 9) rfl)) (gi_cons (lg_wsX7_beats_0 _ (List.mem_of_getElem? (i := 10) rfl)) (gi_cons (lg_wsX7_beats_0 _ (List.mem_of_getElem? (i := 11) rfl)) (gi_cons (lg_wsX7_beats_0 _ (List.mem_of_getElem? (i := 12) rfl)) (gi_cons (lg_wsX7_beats_0 _ (List.mem_of_getElem? (i := 13) rfl)) (gi_cons (lg_wsX7_beats_0 _ (List.mem_of_getElem? (i := 14) rfl)) (gi_cons (lg_wsX7_beats_0 _ (List.mem_of_getElem? (i := 15) rfl)) (gi_cons (lg_wsX7_beats_0 _ (List.mem_of_getElem? (i := 16) rfl)) (gi_cons (lg_wsX7_beats_0 _ (List.mem_of_getElem? (i := 17) rfl)) (gi_cons (lg_wsX7_beats_0 _ (List.mem_of_getElem? (i := 18) rfl)) (gi_cons (lg_wsX7_beats_0 _ (List.mem_of_getElem? (i := 19) rfl)) (gi_cons (lg_wsX7_beats_0 _ (List.mem_of_getElem? (i := 20) rfl)) (gi_cons (lg_wsX7_beats_0 _ (List.mem_of_getElem? (i := 21) rfl)) (gi_cons (lg_wsX7_beats_0 _ (List.mem_of_getElem? (i := 22) rfl)) (gi_cons (lg_wsX7_beats_0 _ (List.mem_of_getElem? (i := 23) rfl)) (gi_cons (lg_wsX7_beats_1 _ (List.mem_of_getElem? (i := 0) rfl)) (gi_cons (lg_wsX7_beats_1 _ (List.mem_of_getElem? (i := 1) rfl)) (gi_cons (lg_wsX7_beats_1 _ (List.mem_of_getElem? (i := 2) rfl)) (gi_cons (lg_wsX7_beats_1 _ (List.mem_of_getElem? (i := 3) rfl)) gi_nil)))))))))))))))))))))))) (goodIn_app (gi_cons (lg_wsX7_beats_1 _ (List.mem_of_getElem? (i := 4) rfl)) (gi_cons (lg_wsX7_beats_1 _ (List.mem_of_getElem? (i := 5) rfl)) (gi_cons (lg_wsX7_beats_1 _ (List.mem_of_getElem? (i := 6) rfl)) (gi_cons (lg_wsX7_beats_1 _ (List.mem_of_getElem? (i := 7) rfl)) (gi_cons (lg_wsX7_beats_1 _ (List.mem_of_getElem? (i := 8) rfl)) (gi_cons (lg_wsX7_beats_1 _ (List.mem_of_getElem? (i := 9) rfl)) (gi_cons (lg_wsX7_beats_1 _ (List.mem_of_getElem? (i := 10) rfl)) (gi_cons (lg_wsX7_beats_1 _ (List.mem_of_getElem? (i := 11) rfl)) (gi_cons (lg_wsX7_beats_1 _ (List.mem_of_getElem? (i := 12) rfl)) (gi_cons (lg_wsX7_beats_1 _ (List.mem_of_getElem? (i := 13) rfl)) (gi_cons (lg_wsX7_beats_1 _ (List.mem_of_getElem? (i := 14) rfl)) (gi_cons (lg_wsX7_beats_1 _ (List.mem_of_getElem? (i := 15) rfl)) (gi_cons (lg_wsX7_beats_1 _ (List.mem_of_getElem? (i := 16) rfl)) (gi_cons (lg_wsX7_beats_1 _ (List.mem_of_getElem? (i := 17) rfl)) (gi_cons (lg_wsX7_beats_1 _ (List.mem_of_getElem? (i := 18) rfl)) (gi_cons (lg_wsX7_beats_1 _ (List.mem_of_getElem? (i := 19) rfl)) (gi_cons (lg_wsX7_beats_1 _ (List.mem_of_getElem? (i := 20) rfl)) (gi_cons (lg_wsX7_beats_1 _ (List.mem_of_getElem? (i := 21) rfl)) (gi_cons (lg_wsX7_beats_1 _ (List.mem_of_getElem? (i := 22) rfl)) (gi_cons (lg_wsX7_beats_1 _ (List.mem_of_getElem? (i := 23) rfl)) (gi_cons (lg_wsX7_beats_2 _ (List.mem_of_getElem? (i := 0) rfl)) (gi_cons (lg_wsX7_beats_2 _ (List.mem_of_getElem? (i := 1) rfl)) (gi_cons (lg_wsX7_beats_2 _ (List.mem_of_getElem? (i := 2) rfl)) (gi_cons (lg_wsX7_beats_2 _ (List.mem_of_getElem? (i := 3) rfl)) gi_nil)))))))))))))))))))))))) (goodIn_app (gi_cons (lg_wsX7_beats_2 _ (List.mem_of_getElem? (i := 4) rfl)) (gi_cons (lg_wsX7_beats_2 _ (List.mem_of_getElem? (i := 5) rfl)) (gi_cons (lg_wsX7_beats_2 _ (List.mem_of_getElem? (i := 6) rfl)) (gi_cons (lg_wsX7_beats_2 _ (List.mem_of_getElem? (i := 7) rfl)) (gi_cons (lg_wsX7_beats_2 _ (List.mem_of_getElem? (i := 8) rfl)) (gi_cons (lg_wsX7_beats_2 _ (List.mem_of_getElem? (i := 9) rfl)) (gi_cons (lg_wsX7_beats_2 _ (List.mem_of_getElem? (i := 10) rfl)) (gi_cons (lg_wsX7_beats_2 _ (List.mem_of_getElem? (i := 11) rfl)) (gi_cons (lg_wsX7_beats_2 _ (List.mem_of_getElem? (i := 12) rfl)) (gi_cons (lg_wsX7_beats_2 _ (List.mem_of_getElem? (i := 13) rfl)) (gi_cons (lg_wsX7_beats_2 _ (List.mem_of_getElem? (i := 14) rfl)) (gi_cons (lg_wsX7_beats_2 _ (List.mem_of_getElem? (i := 15) rfl)) (gi_cons (lg_wsX7_beats_2 _ (List.mem_of_getElem? (i := 16) rfl)) (gi_cons (lg_wsX7_beats_2 _ (List.mem_of_getElem? (i := 17) rfl)) (gi_cons (lg_wsX7_beats_2 _ (List.mem_of_getElem? (i := 18) rfl)) (gi_cons (lg_wsX7_beats_2 _ (List.mem_of_getElem? (i := 19) rfl)) (gi_cons (lg_wsX7_beats_2 _ (List.mem_of_getElem? (i := 20) rfl)) (gi_cons (lg_wsX7_beats_2 _ (List.mem_of_getElem? (i := 21) rfl)) (gi_cons (lg_wsX7_beats_2 _ (List.mem_of_getElem? (i := 22) rfl)) (gi_cons (lg_wsX7_beats_2 _ (List.mem_of_getElem? (i := 23) rfl)) (gi_cons (lg_wsX7_beats_3 _ (List.mem_of_getElem? (i := 0) rfl)) (gi_cons (lg_wsX7_beats_3 _ (List.mem_of_getElem? (i := 1) rfl)) (gi_cons (lg_wsX7_beats_3 _ (List.mem_of_getElem? (i := 2) rfl)) (gi_cons (lg_wsX7_beats_3 _ (List.mem_of_getElem? (i := 3) rfl)) gi_nil)))))))))))))))))))))))) (gi_cons (lg_wsX7_beats_3 _ (List.mem_of_getElem? (i := 4) rfl)) (gi_cons (lg_wsX7_beats_3 _ (List.mem_of_getElem? (i := 5) rfl)) (gi_cons (lg_wsX7_beats_3 _ (List.mem_of_getElem? (i := 6) rfl)) (gi_cons (lg_wsX7_beats_3 _ (List.mem_of_getElem? (i := 7) rfl)) (gi_cons (lg_wsX7_beats_3 _ (List.mem_of_getElem? (i := 8) rfl)) (gi_cons (lg_wsX7_beats_3 _ (List.mem_of_getElem? (i := 9) rfl)) gi_nil))))))))) ls_wsX7_beats_0))
set_option maxRecDepth 20000 in
theorem gX7_beats_X7_beat : GoodIn wsX7_beats (wsV RX7 114 RX7 yX7_beat wsX7_beat) := goodIn_app (gi_cons (lg_wsX7_beats_0 _ (List.mem_of_getElem? (i := 1) rfl)) (gi_cons (lg_wsX7_beats_0 _ (List.mem_of_getElem? (i := 2) rfl)) (gi_cons (lg_wsX7_beats_0 _ (List.mem_of_getElem? (i := 3) rfl)) (gi_cons (lg_wsX7_beats_0 _ (List.mem_of_getElem? (i := 4) rfl)) gi_nil)))) ggX7_beats_X7_beat
theorem dX7_beats_0 : decode cX7_beats 0 = .ok (.aload_n 0, 1) := by decide +kernel
theorem dX7_beats_1 : decode cX7_beats 1 = .ok (.getfield 7, 3) := by decide +kernel
theorem dX7_beats_4 : decode cX7_beats 4 = .ok (.iconst 4, 1) := by decide +kernel
theorem dX7_beats_5 : decode cX7_beats 5 = .ok (.iaload, 1) := by decide +kernel
theorem dX7_beats_6 : decode cX7_beats 6 = .ok (.istore_n 2, 1) := by decide +kernel
theorem dX7_beats_7 : decode cX7_beats 7 = .ok (.iconst 0, 1) := by decide +kernel
theorem dX7_beats_8 : decode cX7_beats 8 = .ok (.istore_n 3, 1) := by decide +kernel
theorem dX7_beats_9 : decode cX7_beats 9 = .ok (.iload_n 3, 1) := by decide +kernel
theorem dX7_beats_10 : decode cX7_beats 10 = .ok (.iload_n 1, 1) := by decide +kernel
theorem dX7_beats_11 : decode cX7_beats 11 = .ok (.if_icmp .ge 13, 3) := by decide +kernel
theorem dX7_beats_14 : decode cX7_beats 14 = .ok (.aload_n 0, 1) := by decide +kernel
theorem dX7_beats_15 : decode cX7_beats 15 = .ok (.invokevirtual 114, 3) := by decide +kernel
theorem dX7_beats_18 : decode cX7_beats 18 = .ok (.iinc 3 1, 3) := by decide +kernel
theorem dX7_beats_21 : decode cX7_beats 21 = .ok (.goto (-12), 3) := by decide +kernel
theorem dX7_beats_24 : decode cX7_beats 24 = .ok (.aload_n 0, 1) := by decide +kernel
theorem dX7_beats_25 : decode cX7_beats 25 = .ok (.getfield 7, 3) := by decide +kernel
theorem dX7_beats_28 : decode cX7_beats 28 = .ok (.iconst 4, 1) := by decide +kernel
theorem dX7_beats_29 : decode cX7_beats 29 = .ok (.iaload, 1) := by decide +kernel
theorem dX7_beats_30 : decode cX7_beats 30 = .ok (.iload_n 2, 1) := by decide +kernel
theorem dX7_beats_31 : decode cX7_beats 31 = .ok (.isub, 1) := by decide +kernel
theorem dX7_beats_32 : decode cX7_beats 32 = .ok (.ireturn, 1) := by decide +kernel
theorem lg_wsX7_lays_0 : GoodIn wsX7_lays ([.fieldLink RX7 7 "MolesLawnModel" "s" "[I", .methodLink RX7 117 yX7_save, .instanceMethod yX7_save, .selects RX7 yX7_save yX7_save, .initialized RX7, .code yX7_save cX7_save 2 none, .fieldLink RX7 46 "MolesLawnModel" "savedMany" "I", .fieldLink RX7 19 "MolesLawnModel" "saved" "[I"] : List Cond) := goodIn_sub (fun _ h => (List.mem_cons_of_mem _ (List.mem_append_left _ h))) (by decide +kernel)
theorem ls_wsX7_lays_0 : GoodIn wsX7_lays wsX70 := goodIn_sub (fun _ h => (List.mem_cons_of_mem _ (List.mem_append_right _ h))) (by decide +kernel)
set_option maxRecDepth 20000 in
theorem ggX7_lays_X7_save : GoodIn wsX7_lays wsX7_save := (gi_cons (lg_wsX7_lays_0 _ (List.mem_of_getElem? (i := 5) rfl)) (goodIn_app (gi_cons (lg_wsX7_lays_0 _ (List.mem_of_getElem? (i := 6) rfl)) (gi_cons (lg_wsX7_lays_0 _ (List.mem_of_getElem? (i := 7) rfl)) (gi_cons (lg_wsX7_lays_0 _ (List.mem_of_getElem? (i := 0) rfl)) gi_nil))) ls_wsX7_lays_0))
set_option maxRecDepth 20000 in
theorem gX7_lays_X7_save : GoodIn wsX7_lays (wsV RX7 117 RX7 yX7_save wsX7_save) := goodIn_app (gi_cons (lg_wsX7_lays_0 _ (List.mem_of_getElem? (i := 1) rfl)) (gi_cons (lg_wsX7_lays_0 _ (List.mem_of_getElem? (i := 2) rfl)) (gi_cons (lg_wsX7_lays_0 _ (List.mem_of_getElem? (i := 3) rfl)) (gi_cons (lg_wsX7_lays_0 _ (List.mem_of_getElem? (i := 4) rfl)) gi_nil)))) ggX7_lays_X7_save
theorem dX7_lays_0 : decode cX7_lays 0 = .ok (.aload_n 0, 1) := by decide +kernel
theorem dX7_lays_1 : decode cX7_lays 1 = .ok (.invokevirtual 117, 3) := by decide +kernel
theorem dX7_lays_4 : decode cX7_lays 4 = .ok (.aload_n 0, 1) := by decide +kernel
theorem dX7_lays_5 : decode cX7_lays 5 = .ok (.getfield 7, 3) := by decide +kernel
theorem dX7_lays_8 : decode cX7_lays 8 = .ok (.iload_n 1, 1) := by decide +kernel
theorem dX7_lays_9 : decode cX7_lays 9 = .ok (.iaload, 1) := by decide +kernel
theorem dX7_lays_10 : decode cX7_lays 10 = .ok (.istore_n 3, 1) := by decide +kernel
theorem dX7_lays_11 : decode cX7_lays 11 = .ok (.aload_n 0, 1) := by decide +kernel
theorem dX7_lays_12 : decode cX7_lays 12 = .ok (.getfield 7, 3) := by decide +kernel
theorem dX7_lays_15 : decode cX7_lays 15 = .ok (.iload_n 1, 1) := by decide +kernel
theorem dX7_lays_16 : decode cX7_lays 16 = .ok (.iload_n 2, 1) := by decide +kernel
theorem dX7_lays_17 : decode cX7_lays 17 = .ok (.iastore, 1) := by decide +kernel
theorem dX7_lays_18 : decode cX7_lays 18 = .ok (.iload_n 3, 1) := by decide +kernel
theorem dX7_lays_19 : decode cX7_lays 19 = .ok (.ireturn, 1) := by decide +kernel
theorem lg_wsX7_mole_0 : GoodIn wsX7_mole wsX7_mole_r1 := goodIn_sub (fun _ h => (List.mem_cons_of_mem _ (List.mem_append_left _ (List.mem_append_left _ h)))) (by decide +kernel)
theorem lg_wsX7_mole_1 : GoodIn wsX7_mole wsX7_mole_r2 := goodIn_sub (fun _ h => (List.mem_cons_of_mem _ (List.mem_append_left _ (List.mem_append_right _ (List.mem_append_left _ h))))) (by decide +kernel)
theorem lg_wsX7_mole_2 : GoodIn wsX7_mole wsX7_mole_r3 := goodIn_sub (fun _ h => (List.mem_cons_of_mem _ (List.mem_append_left _ (List.mem_append_right _ (List.mem_append_right _ h))))) (by decide +kernel)
theorem ls_wsX7_mole_0 : GoodIn wsX7_mole wsX70 := goodIn_sub (fun _ h => (List.mem_cons_of_mem _ (List.mem_append_right _ h))) (by decide +kernel)
set_option maxRecDepth 20000 in
theorem ggX7_mole_X7_isTuft : GoodIn wsX7_mole wsX7_isTuft := (gi_cons (lg_wsX7_mole_0 _ (List.mem_of_getElem? (i := 4) rfl)) (gi_cons (lg_wsX7_mole_0 _ (List.mem_of_getElem? (i := 5) rfl)) (gi_cons (lg_wsX7_mole_0 _ (List.mem_of_getElem? (i := 6) rfl)) (gi_cons (lg_wsX7_mole_0 _ (List.mem_of_getElem? (i := 3) rfl)) (gi_cons (lg_wsX7_mole_0 _ (List.mem_of_getElem? (i := 7) rfl)) gi_nil)))))
set_option maxRecDepth 20000 in
theorem gX7_mole_X7_isTuft : GoodIn wsX7_mole (va_wsS RX7 120 yX7_isTuft wsX7_isTuft) := goodIn_app (gi_cons (lg_wsX7_mole_0 _ (List.mem_of_getElem? (i := 1) rfl)) (gi_cons (lg_wsX7_mole_0 _ (List.mem_of_getElem? (i := 2) rfl)) (gi_cons (lg_wsX7_mole_0 _ (List.mem_of_getElem? (i := 3) rfl)) gi_nil))) ggX7_mole_X7_isTuft
set_option maxRecDepth 20000 in
theorem ggX7_mole_X7_holds : GoodIn wsX7_mole wsX7_holds := (gi_cons (lg_wsX7_mole_0 _ (List.mem_of_getElem? (i := 11) rfl)) (goodIn_app (gi_cons (lg_wsX7_mole_0 _ (List.mem_of_getElem? (i := 12) rfl)) gi_nil) ls_wsX7_mole_0))
set_option maxRecDepth 20000 in
theorem gX7_mole_X7_holds : GoodIn wsX7_mole (wsV RX7 123 RX7 yX7_holds wsX7_holds) := goodIn_app (gi_cons (lg_wsX7_mole_0 _ (List.mem_of_getElem? (i := 8) rfl)) (gi_cons (lg_wsX7_mole_0 _ (List.mem_of_getElem? (i := 9) rfl)) (gi_cons (lg_wsX7_mole_0 _ (List.mem_of_getElem? (i := 10) rfl)) (gi_cons (lg_wsX7_mole_0 _ (List.mem_of_getElem? (i := 3) rfl)) gi_nil)))) ggX7_mole_X7_holds
set_option maxRecDepth 20000 in
theorem ggX7_mole_X7_save : GoodIn wsX7_mole wsX7_save := (gi_cons (lg_wsX7_mole_0 _ (List.mem_of_getElem? (i := 16) rfl)) (goodIn_app (gi_cons (lg_wsX7_mole_0 _ (List.mem_of_getElem? (i := 17) rfl)) (gi_cons (lg_wsX7_mole_0 _ (List.mem_of_getElem? (i := 18) rfl)) (gi_cons (lg_wsX7_mole_0 _ (List.mem_of_getElem? (i := 0) rfl)) gi_nil))) ls_wsX7_mole_0))
set_option maxRecDepth 20000 in
theorem gX7_mole_X7_save : GoodIn wsX7_mole (wsV RX7 117 RX7 yX7_save wsX7_save) := goodIn_app (gi_cons (lg_wsX7_mole_0 _ (List.mem_of_getElem? (i := 13) rfl)) (gi_cons (lg_wsX7_mole_0 _ (List.mem_of_getElem? (i := 14) rfl)) (gi_cons (lg_wsX7_mole_0 _ (List.mem_of_getElem? (i := 15) rfl)) (gi_cons (lg_wsX7_mole_0 _ (List.mem_of_getElem? (i := 3) rfl)) gi_nil)))) ggX7_mole_X7_save
set_option maxRecDepth 20000 in
theorem ggX7_mole_X7_hasMound : GoodIn wsX7_mole wsX7_hasMound := (gi_cons (lg_wsX7_mole_0 _ (List.mem_of_getElem? (i := 22) rfl)) (goodIn_app (gi_cons (lg_wsX7_mole_0 _ (List.mem_of_getElem? (i := 0) rfl)) gi_nil) ls_wsX7_mole_0))
set_option maxRecDepth 20000 in
theorem gX7_mole_X7_hasMound : GoodIn wsX7_mole (wsV RX7 92 RX7 yX7_hasMound wsX7_hasMound) := goodIn_app (gi_cons (lg_wsX7_mole_0 _ (List.mem_of_getElem? (i := 19) rfl)) (gi_cons (lg_wsX7_mole_0 _ (List.mem_of_getElem? (i := 20) rfl)) (gi_cons (lg_wsX7_mole_0 _ (List.mem_of_getElem? (i := 21) rfl)) (gi_cons (lg_wsX7_mole_0 _ (List.mem_of_getElem? (i := 3) rfl)) gi_nil)))) ggX7_mole_X7_hasMound
set_option maxRecDepth 20000 in
theorem ggX7_mole_X7_comesUp : GoodIn wsX7_mole wsX7_comesUp := (gi_cons (lg_wsX7_mole_1 _ (List.mem_of_getElem? (i := 2) rfl)) (goodIn_app (goodIn_app (gi_cons (lg_wsX7_mole_0 _ (List.mem_of_getElem? (i := 0) rfl)) (gi_cons (lg_wsX7_mole_1 _ (List.mem_of_getElem? (i := 3) rfl)) (gi_cons (lg_wsX7_mole_1 _ (List.mem_of_getElem? (i := 4) rfl)) (gi_cons (lg_wsX7_mole_1 _ (List.mem_of_getElem? (i := 5) rfl)) (gi_cons (lg_wsX7_mole_0 _ (List.mem_of_getElem? (i := 3) rfl)) (gi_cons (lg_wsX7_mole_1 _ (List.mem_of_getElem? (i := 6) rfl)) (gi_cons (lg_wsX7_mole_1 _ (List.mem_of_getElem? (i := 7) rfl)) (gi_cons (lg_wsX7_mole_1 _ (List.mem_of_getElem? (i := 8) rfl)) (gi_cons (lg_wsX7_mole_1 _ (List.mem_of_getElem? (i := 9) rfl)) (gi_cons (lg_wsX7_mole_1 _ (List.mem_of_getElem? (i := 10) rfl)) (gi_cons (lg_wsX7_mole_1 _ (List.mem_of_getElem? (i := 11) rfl)) (gi_cons (lg_wsX7_mole_1 _ (List.mem_of_getElem? (i := 12) rfl)) (gi_cons (lg_wsX7_mole_1 _ (List.mem_of_getElem? (i := 13) rfl)) (gi_cons (lg_wsX7_mole_1 _ (List.mem_of_getElem? (i := 14) rfl)) (gi_cons (lg_wsX7_mole_1 _ (List.mem_of_getElem? (i := 15) rfl)) (gi_cons (lg_wsX7_mole_1 _ (List.mem_of_getElem? (i := 16) rfl)) (gi_cons (lg_wsX7_mole_1 _ (List.mem_of_getElem? (i := 17) rfl)) (gi_cons (lg_wsX7_mole_1 _ (List.mem_of_getElem? (i := 18) rfl)) (gi_cons (lg_wsX7_mole_1 _ (List.mem_of_getElem? (i := 19) rfl)) (gi_cons (lg_wsX7_mole_1 _ (List.mem_of_getElem? (i := 20) rfl)) (gi_cons (lg_wsX7_mole_1 _ (List.mem_of_getElem? (i := 21) rfl)) (gi_cons (lg_wsX7_mole_1 _ (List.mem_of_getElem? (i := 22) rfl)) (gi_cons (lg_wsX7_mole_1 _ (List.mem_of_getElem? (i := 23) rfl)) (gi_cons (lg_wsX7_mole_2 _ (List.mem_of_getElem? (i := 0) rfl)) gi_nil)))))))))))))))))))))))) (gi_cons (lg_wsX7_mole_2 _ (List.mem_of_getElem? (i := 1) rfl)) (gi_cons (lg_wsX7_mole_2 _ (List.mem_of_getElem? (i := 2) rfl)) (gi_cons (lg_wsX7_mole_2 _ (List.mem_of_getElem? (i := 3) rfl)) (gi_cons (lg_wsX7_mole_2 _ (List.mem_of_getElem? (i := 4) rfl)) (gi_cons (lg_wsX7_mole_2 _ (List.mem_of_getElem? (i := 5) rfl)) (gi_cons (lg_wsX7_mole_2 _ (List.mem_of_getElem? (i := 6) rfl)) (gi_cons (lg_wsX7_mole_2 _ (List.mem_of_getElem? (i := 7) rfl)) (gi_cons (lg_wsX7_mole_2 _ (List.mem_of_getElem? (i := 8) rfl)) (gi_cons (lg_wsX7_mole_2 _ (List.mem_of_getElem? (i := 9) rfl)) gi_nil)))))))))) ls_wsX7_mole_0))
set_option maxRecDepth 20000 in
theorem gX7_mole_X7_comesUp : GoodIn wsX7_mole (wsV RX7 99 RX7 yX7_comesUp wsX7_comesUp) := goodIn_app (gi_cons (lg_wsX7_mole_0 _ (List.mem_of_getElem? (i := 23) rfl)) (gi_cons (lg_wsX7_mole_1 _ (List.mem_of_getElem? (i := 0) rfl)) (gi_cons (lg_wsX7_mole_1 _ (List.mem_of_getElem? (i := 1) rfl)) (gi_cons (lg_wsX7_mole_0 _ (List.mem_of_getElem? (i := 3) rfl)) gi_nil)))) ggX7_mole_X7_comesUp
set_option maxRecDepth 20000 in
theorem ggX7_mole_X7_of : GoodIn wsX7_mole wsX7_of := (gi_cons (lg_wsX7_mole_2 _ (List.mem_of_getElem? (i := 5) rfl)) gi_nil)
set_option maxRecDepth 20000 in
theorem gX7_mole_X7_of : GoodIn wsX7_mole (va_wsS RX7 64 yX7_of wsX7_of) := goodIn_app (gi_cons (lg_wsX7_mole_2 _ (List.mem_of_getElem? (i := 3) rfl)) (gi_cons (lg_wsX7_mole_2 _ (List.mem_of_getElem? (i := 4) rfl)) (gi_cons (lg_wsX7_mole_0 _ (List.mem_of_getElem? (i := 3) rfl)) gi_nil))) ggX7_mole_X7_of
set_option maxRecDepth 20000 in
theorem ggX7_mole_X7_beginsTrail : GoodIn wsX7_mole wsX7_beginsTrail := (gi_cons (lg_wsX7_mole_2 _ (List.mem_of_getElem? (i := 13) rfl)) (goodIn_app (gi_cons (lg_wsX7_mole_0 _ (List.mem_of_getElem? (i := 0) rfl)) (gi_cons (lg_wsX7_mole_2 _ (List.mem_of_getElem? (i := 3) rfl)) (gi_cons (lg_wsX7_mole_2 _ (List.mem_of_getElem? (i := 4) rfl)) (gi_cons (lg_wsX7_mole_0 _ (List.mem_of_getElem? (i := 3) rfl)) (gi_cons (lg_wsX7_mole_2 _ (List.mem_of_getElem? (i := 5) rfl)) gi_nil))))) ls_wsX7_mole_0))
set_option maxRecDepth 20000 in
theorem gX7_mole_X7_beginsTrail : GoodIn wsX7_mole (wsV RX7 79 RX7 yX7_beginsTrail wsX7_beginsTrail) := goodIn_app (gi_cons (lg_wsX7_mole_2 _ (List.mem_of_getElem? (i := 10) rfl)) (gi_cons (lg_wsX7_mole_2 _ (List.mem_of_getElem? (i := 11) rfl)) (gi_cons (lg_wsX7_mole_2 _ (List.mem_of_getElem? (i := 12) rfl)) (gi_cons (lg_wsX7_mole_0 _ (List.mem_of_getElem? (i := 3) rfl)) gi_nil)))) ggX7_mole_X7_beginsTrail
theorem dX7_mole_0 : decode cX7_mole 0 = .ok (.aload_n 0, 1) := by decide +kernel
theorem dX7_mole_1 : decode cX7_mole 1 = .ok (.iload_n 1, 1) := by decide +kernel
theorem dX7_mole_2 : decode cX7_mole 2 = .ok (.invokestatic 120, 3) := by decide +kernel
theorem dX7_mole_5 : decode cX7_mole 5 = .ok (.ifCond .ne 7, 3) := by decide +kernel
theorem dX7_mole_8 : decode cX7_mole 8 = .ok (.iconst 1, 1) := by decide +kernel
theorem dX7_mole_9 : decode cX7_mole 9 = .ok (.goto 30, 3) := by decide +kernel
theorem dX7_mole_12 : decode cX7_mole 12 = .ok (.aload_n 0, 1) := by decide +kernel
theorem dX7_mole_13 : decode cX7_mole 13 = .ok (.getfield 7, 3) := by decide +kernel
theorem dX7_mole_16 : decode cX7_mole 16 = .ok (.iconst 1, 1) := by decide +kernel
theorem dX7_mole_17 : decode cX7_mole 17 = .ok (.iaload, 1) := by decide +kernel
theorem dX7_mole_18 : decode cX7_mole 18 = .ok (.iconst 4, 1) := by decide +kernel
theorem dX7_mole_19 : decode cX7_mole 19 = .ok (.if_icmp .eq 15, 3) := by decide +kernel
theorem dX7_mole_22 : decode cX7_mole 22 = .ok (.aload_n 0, 1) := by decide +kernel
theorem dX7_mole_23 : decode cX7_mole 23 = .ok (.getfield 7, 3) := by decide +kernel
theorem dX7_mole_26 : decode cX7_mole 26 = .ok (.bipush 72, 2) := by decide +kernel
theorem dX7_mole_28 : decode cX7_mole 28 = .ok (.iload_n 1, 1) := by decide +kernel
theorem dX7_mole_29 : decode cX7_mole 29 = .ok (.iadd, 1) := by decide +kernel
theorem dX7_mole_30 : decode cX7_mole 30 = .ok (.iaload, 1) := by decide +kernel
theorem dX7_mole_31 : decode cX7_mole 31 = .ok (.ifCond .le 7, 3) := by decide +kernel
theorem dX7_mole_34 : decode cX7_mole 34 = .ok (.iconst 2, 1) := by decide +kernel
theorem dX7_mole_35 : decode cX7_mole 35 = .ok (.goto 4, 3) := by decide +kernel
theorem dX7_mole_38 : decode cX7_mole 38 = .ok (.iconst 0, 1) := by decide +kernel
theorem dX7_mole_39 : decode cX7_mole 39 = .ok (.invokevirtual 123, 3) := by decide +kernel
theorem dX7_mole_42 : decode cX7_mole 42 = .ok (.ifCond .ne 5, 3) := by decide +kernel
theorem dX7_mole_45 : decode cX7_mole 45 = .ok (.iconst 0, 1) := by decide +kernel
theorem dX7_mole_46 : decode cX7_mole 46 = .ok (.ireturn, 1) := by decide +kernel
theorem dX7_mole_47 : decode cX7_mole 47 = .ok (.aload_n 0, 1) := by decide +kernel
theorem dX7_mole_48 : decode cX7_mole 48 = .ok (.invokevirtual 117, 3) := by decide +kernel
theorem dX7_mole_51 : decode cX7_mole 51 = .ok (.aload_n 0, 1) := by decide +kernel
theorem dX7_mole_52 : decode cX7_mole 52 = .ok (.iload_n 1, 1) := by decide +kernel
theorem dX7_mole_53 : decode cX7_mole 53 = .ok (.invokevirtual 92, 3) := by decide +kernel
theorem dX7_mole_56 : decode cX7_mole 56 = .ok (.ifCond .ne 8, 3) := by decide +kernel
theorem dX7_mole_59 : decode cX7_mole 59 = .ok (.aload_n 0, 1) := by decide +kernel
theorem dX7_mole_60 : decode cX7_mole 60 = .ok (.iload_n 1, 1) := by decide +kernel
theorem dX7_mole_61 : decode cX7_mole 61 = .ok (.invokevirtual 99, 3) := by decide +kernel
theorem dX7_mole_64 : decode cX7_mole 64 = .ok (.aload_n 0, 1) := by decide +kernel
theorem dX7_mole_65 : decode cX7_mole 65 = .ok (.getfield 7, 3) := by decide +kernel
theorem dX7_mole_68 : decode cX7_mole 68 = .ok (.iconst 1, 1) := by decide +kernel
theorem dX7_mole_69 : decode cX7_mole 69 = .ok (.iaload, 1) := by decide +kernel
theorem dX7_mole_70 : decode cX7_mole 70 = .ok (.istore_n 2, 1) := by decide +kernel
theorem dX7_mole_71 : decode cX7_mole 71 = .ok (.aload_n 0, 1) := by decide +kernel
theorem dX7_mole_72 : decode cX7_mole 72 = .ok (.getfield 7, 3) := by decide +kernel
theorem dX7_mole_75 : decode cX7_mole 75 = .ok (.iconst 1, 1) := by decide +kernel
theorem dX7_mole_76 : decode cX7_mole 76 = .ok (.dup2, 1) := by decide +kernel
theorem dX7_mole_77 : decode cX7_mole 77 = .ok (.iaload, 1) := by decide +kernel
theorem dX7_mole_78 : decode cX7_mole 78 = .ok (.iconst 1, 1) := by decide +kernel
theorem dX7_mole_79 : decode cX7_mole 79 = .ok (.iadd, 1) := by decide +kernel
theorem dX7_mole_80 : decode cX7_mole 80 = .ok (.iastore, 1) := by decide +kernel
theorem dX7_mole_81 : decode cX7_mole 81 = .ok (.aload_n 0, 1) := by decide +kernel
theorem dX7_mole_82 : decode cX7_mole 82 = .ok (.getfield 7, 3) := by decide +kernel
theorem dX7_mole_85 : decode cX7_mole 85 = .ok (.iload_n 2, 1) := by decide +kernel
theorem dX7_mole_86 : decode cX7_mole 86 = .ok (.iconst 0, 1) := by decide +kernel
theorem dX7_mole_87 : decode cX7_mole 87 = .ok (.invokestatic 64, 3) := by decide +kernel
theorem dX7_mole_90 : decode cX7_mole 90 = .ok (.iload_n 1, 1) := by decide +kernel
theorem dX7_mole_91 : decode cX7_mole 91 = .ok (.iastore, 1) := by decide +kernel
theorem dX7_mole_92 : decode cX7_mole 92 = .ok (.aload_n 0, 1) := by decide +kernel
theorem dX7_mole_93 : decode cX7_mole 93 = .ok (.iload_n 2, 1) := by decide +kernel
theorem dX7_mole_94 : decode cX7_mole 94 = .ok (.invokevirtual 79, 3) := by decide +kernel
theorem dX7_mole_97 : decode cX7_mole 97 = .ok (.iload_n 2, 1) := by decide +kernel
theorem dX7_mole_98 : decode cX7_mole 98 = .ok (.ireturn, 1) := by decide +kernel
theorem lg_wsX7_putsPlan_0 : GoodIn wsX7_putsPlan ([.fieldLink RX7 7 "MolesLawnModel" "s" "[I", .methodLink RX7 126 yX7_isMole, .instanceMethod yX7_isMole, .selects RX7 yX7_isMole yX7_isMole, .initialized RX7, .code yX7_isMole cX7_isMole 2 (some .boolean), .methodLink RX7 42 yX7_in, .static yX7_in, .code yX7_in cX7_in 3 (some .boolean), .methodLink RX7 64 yX7_of, .static yX7_of, .code yX7_of cX7_of 2 (some .int)] : List Cond) := goodIn_sub (fun _ h => (List.mem_cons_of_mem _ (List.mem_append_left _ h))) (by decide +kernel)
theorem ls_wsX7_putsPlan_0 : GoodIn wsX7_putsPlan wsX70 := goodIn_sub (fun _ h => (List.mem_cons_of_mem _ (List.mem_append_right _ h))) (by decide +kernel)
set_option maxRecDepth 20000 in
theorem ggX7_putsPlan_X7_isMole : GoodIn wsX7_putsPlan wsX7_isMole := (gi_cons (lg_wsX7_putsPlan_0 _ (List.mem_of_getElem? (i := 5) rfl)) (goodIn_app (gi_cons (lg_wsX7_putsPlan_0 _ (List.mem_of_getElem? (i := 0) rfl)) (gi_cons (lg_wsX7_putsPlan_0 _ (List.mem_of_getElem? (i := 6) rfl)) (gi_cons (lg_wsX7_putsPlan_0 _ (List.mem_of_getElem? (i := 7) rfl)) (gi_cons (lg_wsX7_putsPlan_0 _ (List.mem_of_getElem? (i := 4) rfl)) (gi_cons (lg_wsX7_putsPlan_0 _ (List.mem_of_getElem? (i := 8) rfl)) gi_nil))))) ls_wsX7_putsPlan_0))
set_option maxRecDepth 20000 in
theorem gX7_putsPlan_X7_isMole : GoodIn wsX7_putsPlan (wsV RX7 126 RX7 yX7_isMole wsX7_isMole) := goodIn_app (gi_cons (lg_wsX7_putsPlan_0 _ (List.mem_of_getElem? (i := 1) rfl)) (gi_cons (lg_wsX7_putsPlan_0 _ (List.mem_of_getElem? (i := 2) rfl)) (gi_cons (lg_wsX7_putsPlan_0 _ (List.mem_of_getElem? (i := 3) rfl)) (gi_cons (lg_wsX7_putsPlan_0 _ (List.mem_of_getElem? (i := 4) rfl)) gi_nil)))) ggX7_putsPlan_X7_isMole
set_option maxRecDepth 20000 in
theorem ggX7_putsPlan_X7_of : GoodIn wsX7_putsPlan wsX7_of := (gi_cons (lg_wsX7_putsPlan_0 _ (List.mem_of_getElem? (i := 11) rfl)) gi_nil)
set_option maxRecDepth 20000 in
theorem gX7_putsPlan_X7_of : GoodIn wsX7_putsPlan (va_wsS RX7 64 yX7_of wsX7_of) := goodIn_app (gi_cons (lg_wsX7_putsPlan_0 _ (List.mem_of_getElem? (i := 9) rfl)) (gi_cons (lg_wsX7_putsPlan_0 _ (List.mem_of_getElem? (i := 10) rfl)) (gi_cons (lg_wsX7_putsPlan_0 _ (List.mem_of_getElem? (i := 4) rfl)) gi_nil))) ggX7_putsPlan_X7_of
theorem dX7_putsPlan_0 : decode cX7_putsPlan 0 = .ok (.aload_n 0, 1) := by decide +kernel
theorem dX7_putsPlan_1 : decode cX7_putsPlan 1 = .ok (.iload_n 1, 1) := by decide +kernel
theorem dX7_putsPlan_2 : decode cX7_putsPlan 2 = .ok (.invokevirtual 126, 3) := by decide +kernel
theorem dX7_putsPlan_5 : decode cX7_putsPlan 5 = .ok (.ifCond .eq 22, 3) := by decide +kernel
theorem dX7_putsPlan_8 : decode cX7_putsPlan 8 = .ok (.aload_n 0, 1) := by decide +kernel
theorem dX7_putsPlan_9 : decode cX7_putsPlan 9 = .ok (.getfield 7, 3) := by decide +kernel
theorem dX7_putsPlan_12 : decode cX7_putsPlan 12 = .ok (.iload_n 1, 1) := by decide +kernel
theorem dX7_putsPlan_13 : decode cX7_putsPlan 13 = .ok (.iconst 2, 1) := by decide +kernel
theorem dX7_putsPlan_14 : decode cX7_putsPlan 14 = .ok (.invokestatic 64, 3) := by decide +kernel
theorem dX7_putsPlan_17 : decode cX7_putsPlan 17 = .ok (.iaload, 1) := by decide +kernel
theorem dX7_putsPlan_18 : decode cX7_putsPlan 18 = .ok (.bipush 20, 2) := by decide +kernel
theorem dX7_putsPlan_20 : decode cX7_putsPlan 20 = .ok (.if_icmp .ge 7, 3) := by decide +kernel
theorem dX7_putsPlan_23 : decode cX7_putsPlan 23 = .ok (.iconst 1, 1) := by decide +kernel
theorem dX7_putsPlan_24 : decode cX7_putsPlan 24 = .ok (.goto 4, 3) := by decide +kernel
theorem dX7_putsPlan_27 : decode cX7_putsPlan 27 = .ok (.iconst 0, 1) := by decide +kernel
theorem dX7_putsPlan_28 : decode cX7_putsPlan 28 = .ok (.istore_n 3, 1) := by decide +kernel
theorem dX7_putsPlan_29 : decode cX7_putsPlan 29 = .ok (.iload_n 3, 1) := by decide +kernel
theorem dX7_putsPlan_30 : decode cX7_putsPlan 30 = .ok (.ifCond .eq 39, 3) := by decide +kernel
theorem dX7_putsPlan_33 : decode cX7_putsPlan 33 = .ok (.aload_n 0, 1) := by decide +kernel
theorem dX7_putsPlan_34 : decode cX7_putsPlan 34 = .ok (.getfield 7, 3) := by decide +kernel
theorem dX7_putsPlan_37 : decode cX7_putsPlan 37 = .ok (.iload_n 1, 1) := by decide +kernel
theorem dX7_putsPlan_38 : decode cX7_putsPlan 38 = .ok (.iconst 3, 1) := by decide +kernel
theorem dX7_putsPlan_39 : decode cX7_putsPlan 39 = .ok (.aload_n 0, 1) := by decide +kernel
theorem dX7_putsPlan_40 : decode cX7_putsPlan 40 = .ok (.getfield 7, 3) := by decide +kernel
theorem dX7_putsPlan_43 : decode cX7_putsPlan 43 = .ok (.iload_n 1, 1) := by decide +kernel
theorem dX7_putsPlan_44 : decode cX7_putsPlan 44 = .ok (.iconst 2, 1) := by decide +kernel
theorem dX7_putsPlan_45 : decode cX7_putsPlan 45 = .ok (.invokestatic 64, 3) := by decide +kernel
theorem dX7_putsPlan_48 : decode cX7_putsPlan 48 = .ok (.iaload, 1) := by decide +kernel
theorem dX7_putsPlan_49 : decode cX7_putsPlan 49 = .ok (.iadd, 1) := by decide +kernel
theorem dX7_putsPlan_50 : decode cX7_putsPlan 50 = .ok (.invokestatic 64, 3) := by decide +kernel
theorem dX7_putsPlan_53 : decode cX7_putsPlan 53 = .ok (.iload_n 2, 1) := by decide +kernel
theorem dX7_putsPlan_54 : decode cX7_putsPlan 54 = .ok (.iastore, 1) := by decide +kernel
theorem dX7_putsPlan_55 : decode cX7_putsPlan 55 = .ok (.aload_n 0, 1) := by decide +kernel
theorem dX7_putsPlan_56 : decode cX7_putsPlan 56 = .ok (.getfield 7, 3) := by decide +kernel
theorem dX7_putsPlan_59 : decode cX7_putsPlan 59 = .ok (.iload_n 1, 1) := by decide +kernel
theorem dX7_putsPlan_60 : decode cX7_putsPlan 60 = .ok (.iconst 2, 1) := by decide +kernel
theorem dX7_putsPlan_61 : decode cX7_putsPlan 61 = .ok (.invokestatic 64, 3) := by decide +kernel
theorem dX7_putsPlan_64 : decode cX7_putsPlan 64 = .ok (.dup2, 1) := by decide +kernel
theorem dX7_putsPlan_65 : decode cX7_putsPlan 65 = .ok (.iaload, 1) := by decide +kernel
theorem dX7_putsPlan_66 : decode cX7_putsPlan 66 = .ok (.iconst 1, 1) := by decide +kernel
theorem dX7_putsPlan_67 : decode cX7_putsPlan 67 = .ok (.iadd, 1) := by decide +kernel
theorem dX7_putsPlan_68 : decode cX7_putsPlan 68 = .ok (.iastore, 1) := by decide +kernel
theorem dX7_putsPlan_69 : decode cX7_putsPlan 69 = .ok (.iload_n 3, 1) := by decide +kernel
theorem dX7_putsPlan_70 : decode cX7_putsPlan 70 = .ok (.ireturn, 1) := by decide +kernel
theorem lg_wsX7_plan_0 : GoodIn wsX7_plan wsX7_plan_r1 := goodIn_sub (fun _ h => (List.mem_cons_of_mem _ (List.mem_append_left _ (List.mem_append_left _ h)))) (by decide +kernel)
theorem lg_wsX7_plan_1 : GoodIn wsX7_plan wsX7_plan_r2 := goodIn_sub (fun _ h => (List.mem_cons_of_mem _ (List.mem_append_left _ (List.mem_append_right _ h)))) (by decide +kernel)
theorem ls_wsX7_plan_0 : GoodIn wsX7_plan wsX70 := goodIn_sub (fun _ h => (List.mem_cons_of_mem _ (List.mem_append_right _ h))) (by decide +kernel)
set_option maxRecDepth 20000 in
theorem ggX7_plan_X7_isMole : GoodIn wsX7_plan wsX7_isMole := (gi_cons (lg_wsX7_plan_0 _ (List.mem_of_getElem? (i := 5) rfl)) (goodIn_app (gi_cons (lg_wsX7_plan_0 _ (List.mem_of_getElem? (i := 0) rfl)) (gi_cons (lg_wsX7_plan_0 _ (List.mem_of_getElem? (i := 6) rfl)) (gi_cons (lg_wsX7_plan_0 _ (List.mem_of_getElem? (i := 7) rfl)) (gi_cons (lg_wsX7_plan_0 _ (List.mem_of_getElem? (i := 4) rfl)) (gi_cons (lg_wsX7_plan_0 _ (List.mem_of_getElem? (i := 8) rfl)) gi_nil))))) ls_wsX7_plan_0))
set_option maxRecDepth 20000 in
theorem gX7_plan_X7_isMole : GoodIn wsX7_plan (wsV RX7 126 RX7 yX7_isMole wsX7_isMole) := goodIn_app (gi_cons (lg_wsX7_plan_0 _ (List.mem_of_getElem? (i := 1) rfl)) (gi_cons (lg_wsX7_plan_0 _ (List.mem_of_getElem? (i := 2) rfl)) (gi_cons (lg_wsX7_plan_0 _ (List.mem_of_getElem? (i := 3) rfl)) (gi_cons (lg_wsX7_plan_0 _ (List.mem_of_getElem? (i := 4) rfl)) gi_nil)))) ggX7_plan_X7_isMole
set_option maxRecDepth 20000 in
theorem ggX7_plan_X7_in : GoodIn wsX7_plan wsX7_in := (gi_cons (lg_wsX7_plan_0 _ (List.mem_of_getElem? (i := 8) rfl)) gi_nil)
set_option maxRecDepth 20000 in
theorem gX7_plan_X7_in : GoodIn wsX7_plan (va_wsS RX7 42 yX7_in wsX7_in) := goodIn_app (gi_cons (lg_wsX7_plan_0 _ (List.mem_of_getElem? (i := 6) rfl)) (gi_cons (lg_wsX7_plan_0 _ (List.mem_of_getElem? (i := 7) rfl)) (gi_cons (lg_wsX7_plan_0 _ (List.mem_of_getElem? (i := 4) rfl)) gi_nil))) ggX7_plan_X7_in
set_option maxRecDepth 20000 in
theorem ggX7_plan_X7_of : GoodIn wsX7_plan wsX7_of := (gi_cons (lg_wsX7_plan_0 _ (List.mem_of_getElem? (i := 11) rfl)) gi_nil)
set_option maxRecDepth 20000 in
theorem gX7_plan_X7_of : GoodIn wsX7_plan (va_wsS RX7 64 yX7_of wsX7_of) := goodIn_app (gi_cons (lg_wsX7_plan_0 _ (List.mem_of_getElem? (i := 9) rfl)) (gi_cons (lg_wsX7_plan_0 _ (List.mem_of_getElem? (i := 10) rfl)) (gi_cons (lg_wsX7_plan_0 _ (List.mem_of_getElem? (i := 4) rfl)) gi_nil))) ggX7_plan_X7_of
set_option maxRecDepth 20000 in
theorem ggX7_plan_X7_holds : GoodIn wsX7_plan wsX7_holds := (gi_cons (lg_wsX7_plan_0 _ (List.mem_of_getElem? (i := 15) rfl)) (goodIn_app (gi_cons (lg_wsX7_plan_0 _ (List.mem_of_getElem? (i := 16) rfl)) gi_nil) ls_wsX7_plan_0))
set_option maxRecDepth 20000 in
theorem gX7_plan_X7_holds : GoodIn wsX7_plan (wsV RX7 123 RX7 yX7_holds wsX7_holds) := goodIn_app (gi_cons (lg_wsX7_plan_0 _ (List.mem_of_getElem? (i := 12) rfl)) (gi_cons (lg_wsX7_plan_0 _ (List.mem_of_getElem? (i := 13) rfl)) (gi_cons (lg_wsX7_plan_0 _ (List.mem_of_getElem? (i := 14) rfl)) (gi_cons (lg_wsX7_plan_0 _ (List.mem_of_getElem? (i := 4) rfl)) gi_nil)))) ggX7_plan_X7_holds
set_option maxRecDepth 20000 in
theorem ggX7_plan_X7_save : GoodIn wsX7_plan wsX7_save := (gi_cons (lg_wsX7_plan_0 _ (List.mem_of_getElem? (i := 20) rfl)) (goodIn_app (gi_cons (lg_wsX7_plan_0 _ (List.mem_of_getElem? (i := 21) rfl)) (gi_cons (lg_wsX7_plan_0 _ (List.mem_of_getElem? (i := 22) rfl)) (gi_cons (lg_wsX7_plan_0 _ (List.mem_of_getElem? (i := 0) rfl)) gi_nil))) ls_wsX7_plan_0))
set_option maxRecDepth 20000 in
theorem gX7_plan_X7_save : GoodIn wsX7_plan (wsV RX7 117 RX7 yX7_save wsX7_save) := goodIn_app (gi_cons (lg_wsX7_plan_0 _ (List.mem_of_getElem? (i := 17) rfl)) (gi_cons (lg_wsX7_plan_0 _ (List.mem_of_getElem? (i := 18) rfl)) (gi_cons (lg_wsX7_plan_0 _ (List.mem_of_getElem? (i := 19) rfl)) (gi_cons (lg_wsX7_plan_0 _ (List.mem_of_getElem? (i := 4) rfl)) gi_nil)))) ggX7_plan_X7_save
set_option maxRecDepth 20000 in
theorem ggX7_plan_X7_putsPlan : GoodIn wsX7_plan wsX7_putsPlan := (gi_cons (lg_wsX7_plan_1 _ (List.mem_of_getElem? (i := 2) rfl)) (goodIn_app (gi_cons (lg_wsX7_plan_0 _ (List.mem_of_getElem? (i := 0) rfl)) (gi_cons (lg_wsX7_plan_0 _ (List.mem_of_getElem? (i := 1) rfl)) (gi_cons (lg_wsX7_plan_0 _ (List.mem_of_getElem? (i := 2) rfl)) (gi_cons (lg_wsX7_plan_0 _ (List.mem_of_getElem? (i := 3) rfl)) (gi_cons (lg_wsX7_plan_0 _ (List.mem_of_getElem? (i := 4) rfl)) (gi_cons (lg_wsX7_plan_0 _ (List.mem_of_getElem? (i := 5) rfl)) (gi_cons (lg_wsX7_plan_0 _ (List.mem_of_getElem? (i := 6) rfl)) (gi_cons (lg_wsX7_plan_0 _ (List.mem_of_getElem? (i := 7) rfl)) (gi_cons (lg_wsX7_plan_0 _ (List.mem_of_getElem? (i := 8) rfl)) (gi_cons (lg_wsX7_plan_0 _ (List.mem_of_getElem? (i := 9) rfl)) (gi_cons (lg_wsX7_plan_0 _ (List.mem_of_getElem? (i := 10) rfl)) (gi_cons (lg_wsX7_plan_0 _ (List.mem_of_getElem? (i := 11) rfl)) gi_nil)))))))))))) ls_wsX7_plan_0))
set_option maxRecDepth 20000 in
theorem gX7_plan_X7_putsPlan : GoodIn wsX7_plan (wsV RX7 129 RX7 yX7_putsPlan wsX7_putsPlan) := goodIn_app (gi_cons (lg_wsX7_plan_0 _ (List.mem_of_getElem? (i := 23) rfl)) (gi_cons (lg_wsX7_plan_1 _ (List.mem_of_getElem? (i := 0) rfl)) (gi_cons (lg_wsX7_plan_1 _ (List.mem_of_getElem? (i := 1) rfl)) (gi_cons (lg_wsX7_plan_0 _ (List.mem_of_getElem? (i := 4) rfl)) gi_nil)))) ggX7_plan_X7_putsPlan
theorem dX7_plan_0 : decode cX7_plan 0 = .ok (.aload_n 0, 1) := by decide +kernel
theorem dX7_plan_1 : decode cX7_plan 1 = .ok (.aload_n 0, 1) := by decide +kernel
theorem dX7_plan_2 : decode cX7_plan 2 = .ok (.iload_n 1, 1) := by decide +kernel
theorem dX7_plan_3 : decode cX7_plan 3 = .ok (.invokevirtual 126, 3) := by decide +kernel
theorem dX7_plan_6 : decode cX7_plan 6 = .ok (.ifCond .ne 7, 3) := by decide +kernel
theorem dX7_plan_9 : decode cX7_plan 9 = .ok (.iconst 1, 1) := by decide +kernel
theorem dX7_plan_10 : decode cX7_plan 10 = .ok (.goto 36, 3) := by decide +kernel
theorem dX7_plan_13 : decode cX7_plan 13 = .ok (.iload_n 2, 1) := by decide +kernel
theorem dX7_plan_14 : decode cX7_plan 14 = .ok (.iconst 0, 1) := by decide +kernel
theorem dX7_plan_15 : decode cX7_plan 15 = .ok (.iconst 3, 1) := by decide +kernel
theorem dX7_plan_16 : decode cX7_plan 16 = .ok (.invokestatic 42, 3) := by decide +kernel
theorem dX7_plan_19 : decode cX7_plan 19 = .ok (.ifCond .ne 7, 3) := by decide +kernel
theorem dX7_plan_22 : decode cX7_plan 22 = .ok (.iconst 2, 1) := by decide +kernel
theorem dX7_plan_23 : decode cX7_plan 23 = .ok (.goto 23, 3) := by decide +kernel
theorem dX7_plan_26 : decode cX7_plan 26 = .ok (.aload_n 0, 1) := by decide +kernel
theorem dX7_plan_27 : decode cX7_plan 27 = .ok (.getfield 7, 3) := by decide +kernel
theorem dX7_plan_30 : decode cX7_plan 30 = .ok (.iload_n 1, 1) := by decide +kernel
theorem dX7_plan_31 : decode cX7_plan 31 = .ok (.iconst 2, 1) := by decide +kernel
theorem dX7_plan_32 : decode cX7_plan 32 = .ok (.invokestatic 64, 3) := by decide +kernel
theorem dX7_plan_35 : decode cX7_plan 35 = .ok (.iaload, 1) := by decide +kernel
theorem dX7_plan_36 : decode cX7_plan 36 = .ok (.bipush 20, 2) := by decide +kernel
theorem dX7_plan_38 : decode cX7_plan 38 = .ok (.if_icmp .ne 7, 3) := by decide +kernel
theorem dX7_plan_41 : decode cX7_plan 41 = .ok (.iconst 3, 1) := by decide +kernel
theorem dX7_plan_42 : decode cX7_plan 42 = .ok (.goto 4, 3) := by decide +kernel
theorem dX7_plan_45 : decode cX7_plan 45 = .ok (.iconst 0, 1) := by decide +kernel
theorem dX7_plan_46 : decode cX7_plan 46 = .ok (.invokevirtual 123, 3) := by decide +kernel
theorem dX7_plan_49 : decode cX7_plan 49 = .ok (.ifCond .ne 5, 3) := by decide +kernel
theorem dX7_plan_52 : decode cX7_plan 52 = .ok (.iconst 0, 1) := by decide +kernel
theorem dX7_plan_53 : decode cX7_plan 53 = .ok (.ireturn, 1) := by decide +kernel
theorem dX7_plan_54 : decode cX7_plan 54 = .ok (.aload_n 0, 1) := by decide +kernel
theorem dX7_plan_55 : decode cX7_plan 55 = .ok (.invokevirtual 117, 3) := by decide +kernel
theorem dX7_plan_58 : decode cX7_plan 58 = .ok (.aload_n 0, 1) := by decide +kernel
theorem dX7_plan_59 : decode cX7_plan 59 = .ok (.iload_n 1, 1) := by decide +kernel
theorem dX7_plan_60 : decode cX7_plan 60 = .ok (.iload_n 2, 1) := by decide +kernel
theorem dX7_plan_61 : decode cX7_plan 61 = .ok (.invokevirtual 129, 3) := by decide +kernel
theorem dX7_plan_64 : decode cX7_plan 64 = .ok (.istore_n 3, 1) := by decide +kernel
theorem dX7_plan_65 : decode cX7_plan 65 = .ok (.aload_n 0, 1) := by decide +kernel
theorem dX7_plan_66 : decode cX7_plan 66 = .ok (.getfield 7, 3) := by decide +kernel
theorem dX7_plan_69 : decode cX7_plan 69 = .ok (.iload_n 1, 1) := by decide +kernel
theorem dX7_plan_70 : decode cX7_plan 70 = .ok (.iconst 2, 1) := by decide +kernel
theorem dX7_plan_71 : decode cX7_plan 71 = .ok (.invokestatic 64, 3) := by decide +kernel
theorem dX7_plan_74 : decode cX7_plan 74 = .ok (.iaload, 1) := by decide +kernel
theorem dX7_plan_75 : decode cX7_plan 75 = .ok (.ireturn, 1) := by decide +kernel
theorem lg_wsX7_rest_0 : GoodIn wsX7_rest wsX7_rest_r1 := goodIn_sub (fun _ h => (List.mem_cons_of_mem _ (List.mem_append_left _ (List.mem_append_left _ h)))) (by decide +kernel)
theorem lg_wsX7_rest_1 : GoodIn wsX7_rest wsX7_rest_r2 := goodIn_sub (fun _ h => (List.mem_cons_of_mem _ (List.mem_append_left _ (List.mem_append_right _ h)))) (by decide +kernel)
theorem ls_wsX7_rest_0 : GoodIn wsX7_rest wsX70 := goodIn_sub (fun _ h => (List.mem_cons_of_mem _ (List.mem_append_right _ h))) (by decide +kernel)
set_option maxRecDepth 20000 in
theorem ggX7_rest_X7_isMole : GoodIn wsX7_rest wsX7_isMole := (gi_cons (lg_wsX7_rest_0 _ (List.mem_of_getElem? (i := 5) rfl)) (goodIn_app (gi_cons (lg_wsX7_rest_0 _ (List.mem_of_getElem? (i := 0) rfl)) (gi_cons (lg_wsX7_rest_0 _ (List.mem_of_getElem? (i := 6) rfl)) (gi_cons (lg_wsX7_rest_0 _ (List.mem_of_getElem? (i := 7) rfl)) (gi_cons (lg_wsX7_rest_0 _ (List.mem_of_getElem? (i := 4) rfl)) (gi_cons (lg_wsX7_rest_0 _ (List.mem_of_getElem? (i := 8) rfl)) gi_nil))))) ls_wsX7_rest_0))
set_option maxRecDepth 20000 in
theorem gX7_rest_X7_isMole : GoodIn wsX7_rest (wsV RX7 126 RX7 yX7_isMole wsX7_isMole) := goodIn_app (gi_cons (lg_wsX7_rest_0 _ (List.mem_of_getElem? (i := 1) rfl)) (gi_cons (lg_wsX7_rest_0 _ (List.mem_of_getElem? (i := 2) rfl)) (gi_cons (lg_wsX7_rest_0 _ (List.mem_of_getElem? (i := 3) rfl)) (gi_cons (lg_wsX7_rest_0 _ (List.mem_of_getElem? (i := 4) rfl)) gi_nil)))) ggX7_rest_X7_isMole
set_option maxRecDepth 20000 in
theorem ggX7_rest_X7_holds : GoodIn wsX7_rest wsX7_holds := (gi_cons (lg_wsX7_rest_0 _ (List.mem_of_getElem? (i := 12) rfl)) (goodIn_app (gi_cons (lg_wsX7_rest_0 _ (List.mem_of_getElem? (i := 13) rfl)) gi_nil) ls_wsX7_rest_0))
set_option maxRecDepth 20000 in
theorem gX7_rest_X7_holds : GoodIn wsX7_rest (wsV RX7 123 RX7 yX7_holds wsX7_holds) := goodIn_app (gi_cons (lg_wsX7_rest_0 _ (List.mem_of_getElem? (i := 9) rfl)) (gi_cons (lg_wsX7_rest_0 _ (List.mem_of_getElem? (i := 10) rfl)) (gi_cons (lg_wsX7_rest_0 _ (List.mem_of_getElem? (i := 11) rfl)) (gi_cons (lg_wsX7_rest_0 _ (List.mem_of_getElem? (i := 4) rfl)) gi_nil)))) ggX7_rest_X7_holds
set_option maxRecDepth 20000 in
theorem ggX7_rest_X7_save : GoodIn wsX7_rest wsX7_save := (gi_cons (lg_wsX7_rest_0 _ (List.mem_of_getElem? (i := 17) rfl)) (goodIn_app (gi_cons (lg_wsX7_rest_0 _ (List.mem_of_getElem? (i := 18) rfl)) (gi_cons (lg_wsX7_rest_0 _ (List.mem_of_getElem? (i := 19) rfl)) (gi_cons (lg_wsX7_rest_0 _ (List.mem_of_getElem? (i := 0) rfl)) gi_nil))) ls_wsX7_rest_0))
set_option maxRecDepth 20000 in
theorem gX7_rest_X7_save : GoodIn wsX7_rest (wsV RX7 117 RX7 yX7_save wsX7_save) := goodIn_app (gi_cons (lg_wsX7_rest_0 _ (List.mem_of_getElem? (i := 14) rfl)) (gi_cons (lg_wsX7_rest_0 _ (List.mem_of_getElem? (i := 15) rfl)) (gi_cons (lg_wsX7_rest_0 _ (List.mem_of_getElem? (i := 16) rfl)) (gi_cons (lg_wsX7_rest_0 _ (List.mem_of_getElem? (i := 4) rfl)) gi_nil)))) ggX7_rest_X7_save
set_option maxRecDepth 20000 in
theorem ggX7_rest_X7_of : GoodIn wsX7_rest wsX7_of := (gi_cons (lg_wsX7_rest_0 _ (List.mem_of_getElem? (i := 22) rfl)) gi_nil)
set_option maxRecDepth 20000 in
theorem gX7_rest_X7_of : GoodIn wsX7_rest (va_wsS RX7 64 yX7_of wsX7_of) := goodIn_app (gi_cons (lg_wsX7_rest_0 _ (List.mem_of_getElem? (i := 20) rfl)) (gi_cons (lg_wsX7_rest_0 _ (List.mem_of_getElem? (i := 21) rfl)) (gi_cons (lg_wsX7_rest_0 _ (List.mem_of_getElem? (i := 4) rfl)) gi_nil))) ggX7_rest_X7_of
set_option maxRecDepth 20000 in
theorem ggX7_rest_X7_takesOff : GoodIn wsX7_rest wsX7_takesOff := (gi_cons (lg_wsX7_rest_1 _ (List.mem_of_getElem? (i := 2) rfl)) (goodIn_app (gi_cons (lg_wsX7_rest_0 _ (List.mem_of_getElem? (i := 0) rfl)) (gi_cons (lg_wsX7_rest_0 _ (List.mem_of_getElem? (i := 20) rfl)) (gi_cons (lg_wsX7_rest_0 _ (List.mem_of_getElem? (i := 21) rfl)) (gi_cons (lg_wsX7_rest_0 _ (List.mem_of_getElem? (i := 4) rfl)) (gi_cons (lg_wsX7_rest_0 _ (List.mem_of_getElem? (i := 22) rfl)) gi_nil))))) ls_wsX7_rest_0))
set_option maxRecDepth 20000 in
theorem gX7_rest_X7_takesOff : GoodIn wsX7_rest (wsV RX7 82 RX7 yX7_takesOff wsX7_takesOff) := goodIn_app (gi_cons (lg_wsX7_rest_0 _ (List.mem_of_getElem? (i := 23) rfl)) (gi_cons (lg_wsX7_rest_1 _ (List.mem_of_getElem? (i := 0) rfl)) (gi_cons (lg_wsX7_rest_1 _ (List.mem_of_getElem? (i := 1) rfl)) (gi_cons (lg_wsX7_rest_0 _ (List.mem_of_getElem? (i := 4) rfl)) gi_nil)))) ggX7_rest_X7_takesOff
theorem dX7_rest_0 : decode cX7_rest 0 = .ok (.aload_n 0, 1) := by decide +kernel
theorem dX7_rest_1 : decode cX7_rest 1 = .ok (.aload_n 0, 1) := by decide +kernel
theorem dX7_rest_2 : decode cX7_rest 2 = .ok (.iload_n 1, 1) := by decide +kernel
theorem dX7_rest_3 : decode cX7_rest 3 = .ok (.invokevirtual 126, 3) := by decide +kernel
theorem dX7_rest_6 : decode cX7_rest 6 = .ok (.ifCond .eq 7, 3) := by decide +kernel
theorem dX7_rest_9 : decode cX7_rest 9 = .ok (.iconst 0, 1) := by decide +kernel
theorem dX7_rest_10 : decode cX7_rest 10 = .ok (.goto 4, 3) := by decide +kernel
theorem dX7_rest_13 : decode cX7_rest 13 = .ok (.iconst 1, 1) := by decide +kernel
theorem dX7_rest_14 : decode cX7_rest 14 = .ok (.invokevirtual 123, 3) := by decide +kernel
theorem dX7_rest_17 : decode cX7_rest 17 = .ok (.ifCond .ne 5, 3) := by decide +kernel
theorem dX7_rest_20 : decode cX7_rest 20 = .ok (.iconst 0, 1) := by decide +kernel
theorem dX7_rest_21 : decode cX7_rest 21 = .ok (.ireturn, 1) := by decide +kernel
theorem dX7_rest_22 : decode cX7_rest 22 = .ok (.aload_n 0, 1) := by decide +kernel
theorem dX7_rest_23 : decode cX7_rest 23 = .ok (.invokevirtual 117, 3) := by decide +kernel
theorem dX7_rest_26 : decode cX7_rest 26 = .ok (.aload_n 0, 1) := by decide +kernel
theorem dX7_rest_27 : decode cX7_rest 27 = .ok (.getfield 7, 3) := by decide +kernel
theorem dX7_rest_30 : decode cX7_rest 30 = .ok (.iload_n 1, 1) := by decide +kernel
theorem dX7_rest_31 : decode cX7_rest 31 = .ok (.iconst 2, 1) := by decide +kernel
theorem dX7_rest_32 : decode cX7_rest 32 = .ok (.invokestatic 64, 3) := by decide +kernel
theorem dX7_rest_35 : decode cX7_rest 35 = .ok (.iaload, 1) := by decide +kernel
theorem dX7_rest_36 : decode cX7_rest 36 = .ok (.istore_n 2, 1) := by decide +kernel
theorem dX7_rest_37 : decode cX7_rest 37 = .ok (.iconst 0, 1) := by decide +kernel
theorem dX7_rest_38 : decode cX7_rest 38 = .ok (.istore_n 3, 1) := by decide +kernel
theorem dX7_rest_39 : decode cX7_rest 39 = .ok (.iload_n 3, 1) := by decide +kernel
theorem dX7_rest_40 : decode cX7_rest 40 = .ok (.iload_n 2, 1) := by decide +kernel
theorem dX7_rest_41 : decode cX7_rest 41 = .ok (.if_icmp .ge 14, 3) := by decide +kernel
theorem dX7_rest_44 : decode cX7_rest 44 = .ok (.aload_n 0, 1) := by decide +kernel
theorem dX7_rest_45 : decode cX7_rest 45 = .ok (.iload_n 1, 1) := by decide +kernel
theorem dX7_rest_46 : decode cX7_rest 46 = .ok (.invokevirtual 82, 3) := by decide +kernel
theorem dX7_rest_49 : decode cX7_rest 49 = .ok (.iinc 3 1, 3) := by decide +kernel
theorem dX7_rest_52 : decode cX7_rest 52 = .ok (.goto (-13), 3) := by decide +kernel
theorem dX7_rest_55 : decode cX7_rest 55 = .ok (.iload_n 2, 1) := by decide +kernel
theorem dX7_rest_56 : decode cX7_rest 56 = .ok (.ireturn, 1) := by decide +kernel
theorem lg_wsX7_pass_0 : GoodIn wsX7_pass wsX7_pass_r1 := goodIn_sub (fun _ h => (List.mem_cons_of_mem _ (List.mem_append_left _ (List.mem_append_left _ h)))) (by decide +kernel)
theorem lg_wsX7_pass_1 : GoodIn wsX7_pass wsX7_pass_r2 := goodIn_sub (fun _ h => (List.mem_cons_of_mem _ (List.mem_append_left _ (List.mem_append_right _ (List.mem_append_left _ h))))) (by decide +kernel)
theorem lg_wsX7_pass_2 : GoodIn wsX7_pass wsX7_pass_r3 := goodIn_sub (fun _ h => (List.mem_cons_of_mem _ (List.mem_append_left _ (List.mem_append_right _ (List.mem_append_right _ (List.mem_append_left _ h)))))) (by decide +kernel)
theorem lg_wsX7_pass_3 : GoodIn wsX7_pass wsX7_pass_r4 := goodIn_sub (fun _ h => (List.mem_cons_of_mem _ (List.mem_append_left _ (List.mem_append_right _ (List.mem_append_right _ (List.mem_append_right _ (List.mem_append_left _ h))))))) (by decide +kernel)
theorem lg_wsX7_pass_4 : GoodIn wsX7_pass wsX7_pass_r5 := goodIn_sub (fun _ h => (List.mem_cons_of_mem _ (List.mem_append_left _ (List.mem_append_right _ (List.mem_append_right _ (List.mem_append_right _ (List.mem_append_right _ h))))))) (by decide +kernel)
theorem ls_wsX7_pass_0 : GoodIn wsX7_pass wsX70 := goodIn_sub (fun _ h => (List.mem_cons_of_mem _ (List.mem_append_right _ h))) (by decide +kernel)
set_option maxRecDepth 20000 in
theorem ggX7_pass_X7_in : GoodIn wsX7_pass wsX7_in := (gi_cons (lg_wsX7_pass_0 _ (List.mem_of_getElem? (i := 3) rfl)) gi_nil)
set_option maxRecDepth 20000 in
theorem gX7_pass_X7_in : GoodIn wsX7_pass (va_wsS RX7 42 yX7_in wsX7_in) := goodIn_app (gi_cons (lg_wsX7_pass_0 _ (List.mem_of_getElem? (i := 0) rfl)) (gi_cons (lg_wsX7_pass_0 _ (List.mem_of_getElem? (i := 1) rfl)) (gi_cons (lg_wsX7_pass_0 _ (List.mem_of_getElem? (i := 2) rfl)) gi_nil))) ggX7_pass_X7_in
set_option maxRecDepth 20000 in
theorem ggX7_pass_X7_holds : GoodIn wsX7_pass wsX7_holds := (gi_cons (lg_wsX7_pass_0 _ (List.mem_of_getElem? (i := 7) rfl)) (goodIn_app (gi_cons (lg_wsX7_pass_0 _ (List.mem_of_getElem? (i := 8) rfl)) gi_nil) ls_wsX7_pass_0))
set_option maxRecDepth 20000 in
theorem gX7_pass_X7_holds : GoodIn wsX7_pass (wsV RX7 123 RX7 yX7_holds wsX7_holds) := goodIn_app (gi_cons (lg_wsX7_pass_0 _ (List.mem_of_getElem? (i := 4) rfl)) (gi_cons (lg_wsX7_pass_0 _ (List.mem_of_getElem? (i := 5) rfl)) (gi_cons (lg_wsX7_pass_0 _ (List.mem_of_getElem? (i := 6) rfl)) (gi_cons (lg_wsX7_pass_0 _ (List.mem_of_getElem? (i := 2) rfl)) gi_nil)))) ggX7_pass_X7_holds
set_option maxRecDepth 20000 in
theorem ggX7_pass_X7_save : GoodIn wsX7_pass wsX7_save := (gi_cons (lg_wsX7_pass_0 _ (List.mem_of_getElem? (i := 12) rfl)) (goodIn_app (gi_cons (lg_wsX7_pass_0 _ (List.mem_of_getElem? (i := 13) rfl)) (gi_cons (lg_wsX7_pass_0 _ (List.mem_of_getElem? (i := 14) rfl)) (gi_cons (lg_wsX7_pass_0 _ (List.mem_of_getElem? (i := 15) rfl)) gi_nil))) ls_wsX7_pass_0))
set_option maxRecDepth 20000 in
theorem gX7_pass_X7_save : GoodIn wsX7_pass (wsV RX7 117 RX7 yX7_save wsX7_save) := goodIn_app (gi_cons (lg_wsX7_pass_0 _ (List.mem_of_getElem? (i := 9) rfl)) (gi_cons (lg_wsX7_pass_0 _ (List.mem_of_getElem? (i := 10) rfl)) (gi_cons (lg_wsX7_pass_0 _ (List.mem_of_getElem? (i := 11) rfl)) (gi_cons (lg_wsX7_pass_0 _ (List.mem_of_getElem? (i := 2) rfl)) gi_nil)))) ggX7_pass_X7_save
set_option maxRecDepth 20000 in
theorem ggX7_pass_X7_beats : GoodIn wsX7_pass wsX7_beats := (gi_cons (lg_wsX7_pass_0 _ (List.mem_of_getElem? (i := 19) rfl)) (goodIn_app (goodIn_app (gi_cons (lg_wsX7_pass_0 _ (List.mem_of_getElem? (i := 15) rfl)) (gi_cons (lg_wsX7_pass_0 _ (List.mem_of_getElem? (i := 20) rfl)) (gi_cons (lg_wsX7_pass_0 _ (List.mem_of_getElem? (i := 21) rfl)) (gi_cons (lg_wsX7_pass_0 _ (List.mem_of_getElem? (i := 22) rfl)) (gi_cons (lg_wsX7_pass_0 _ (List.mem_of_getElem? (i := 2) rfl)) (gi_cons (lg_wsX7_pass_0 _ (List.mem_of_getElem? (i := 23) rfl)) (gi_cons (lg_wsX7_pass_1 _ (List.mem_of_getElem? (i := 0) rfl)) (gi_cons (lg_wsX7_pass_1 _ (List.mem_of_getElem? (i := 1) rfl)) (gi_cons (lg_wsX7_pass_1 _ (List.mem_of_getElem? (i := 2) rfl)) (gi_cons (lg_wsX7_pass_1 _ (List.mem_of_getElem? (i := 3) rfl)) (gi_cons (lg_wsX7_pass_1 _ (List.mem_of_getElem? (i := 4) rfl)) (gi_cons (lg_wsX7_pass_1 _ (List.mem_of_getElem? (i := 5) rfl)) (gi_cons (lg_wsX7_pass_1 _ (List.mem_of_getElem? (i := 6) rfl)) (gi_cons (lg_wsX7_pass_1 _ (List.mem_of_getElem? (i := 7) rfl)) (gi_cons (lg_wsX7_pass_1 _ (List.mem_of_getElem? (i := 8) rfl)) (gi_cons (lg_wsX7_pass_1 _ (List.mem_of_getElem? (i := 9) rfl)) (gi_cons (lg_wsX7_pass_1 _ (List.mem_of_getElem? (i := 10) rfl)) (gi_cons (lg_wsX7_pass_1 _ (List.mem_of_getElem? (i := 11) rfl)) (gi_cons (lg_wsX7_pass_1 _ (List.mem_of_getElem? (i := 12) rfl)) (gi_cons (lg_wsX7_pass_0 _ (List.mem_of_getElem? (i := 0) rfl)) (gi_cons (lg_wsX7_pass_0 _ (List.mem_of_getElem? (i := 1) rfl)) (gi_cons (lg_wsX7_pass_0 _ (List.mem_of_getElem? (i := 3) rfl)) (gi_cons (lg_wsX7_pass_1 _ (List.mem_of_getElem? (i := 13) rfl)) (gi_cons (lg_wsX7_pass_1 _ (List.mem_of_getElem? (i := 14) rfl)) gi_nil)))))))))))))))))))))))) (goodIn_app (gi_cons (lg_wsX7_pass_1 _ (List.mem_of_getElem? (i := 15) rfl)) (gi_cons (lg_wsX7_pass_1 _ (List.mem_of_getElem? (i := 16) rfl)) (gi_cons (lg_wsX7_pass_1 _ (List.mem_of_getElem? (i := 17) rfl)) (gi_cons (lg_wsX7_pass_1 _ (List.mem_of_getElem? (i := 18) rfl)) (gi_cons (lg_wsX7_pass_1 _ (List.mem_of_getElem? (i := 19) rfl)) (gi_cons (lg_wsX7_pass_1 _ (List.mem_of_getElem? (i := 20) rfl)) (gi_cons (lg_wsX7_pass_1 _ (List.mem_of_getElem? (i := 21) rfl)) (gi_cons (lg_wsX7_pass_1 _ (List.mem_of_getElem? (i := 22) rfl)) (gi_cons (lg_wsX7_pass_1 _ (List.mem_of_getElem? (i := 23) rfl)) (gi_cons (lg_wsX7_pass_2 _ (List.mem_of_getElem? (i := 0) rfl)) (gi_cons (lg_wsX7_pass_2 _ (List.mem_of_getElem? (i := 1) rfl)) (gi_cons (lg_wsX7_pass_2 _ (List.mem_of_getElem? (i := 2) rfl)) (gi_cons (lg_wsX7_pass_2 _ (List.mem_of_getElem? (i := 3) rfl)) (gi_cons (lg_wsX7_pass_2 _ (List.mem_of_getElem? (i := 4) rfl)) (gi_cons (lg_wsX7_pass_2 _ (List.mem_of_getElem? (i := 5) rfl)) (gi_cons (lg_wsX7_pass_2 _ (List.mem_of_getElem? (i := 6) rfl)) (gi_cons (lg_wsX7_pass_2 _ (List.mem_of_getElem? (i := 7) rfl)) (gi_cons (lg_wsX7_pass_2 _ (List.mem_of_getElem? (i := 8) rfl)) (gi_cons (lg_wsX7_pass_2 _ (List.mem_of_getElem? (i := 9) rfl)) (gi_cons (lg_wsX7_pass_2 _ (List.mem_of_getElem? (i := 10) rfl)) (gi_cons (lg_wsX7_pass_2 _ (List.mem_of_getElem? (i := 11) rfl)) (gi_cons (lg_wsX7_pass_2 _ (List.mem_of_getElem? (i := 12) rfl)) (gi_cons (lg_wsX7_pass_2 _ (List.mem_of_getElem? (i := 13) rfl)) (gi_cons (lg_wsX7_pass_2 _ (List.mem_of_getElem? (i := 14) rfl)) gi_nil)))))))))))))))))))))))) (goodIn_app (gi_cons (lg_wsX7_pass_2 _ (List.mem_of_getElem? (i := 15) rfl)) (gi_cons (lg_wsX7_pass_2 _ (List.mem_of_getElem? (i := 16) rfl)) (gi_cons (lg_wsX7_pass_2 _ (List.mem_of_getElem? (i := 17) rfl)) (gi_cons (lg_wsX7_pass_2 _ (List.mem_of_getElem? (i := 18) rfl)) (gi_cons (lg_wsX7_pass_2 _ (List.mem_of_getElem? (i := 19) rfl)) (gi_cons (lg_wsX7_pass_2 _ (List.mem_of_getElem? (i := 20) rfl)) (gi_cons (lg_wsX7_pass_2 _ (List.mem_of_getElem? (i := 21) rfl)) (gi_cons (lg_wsX7_pass_2 _ (List.mem_of_getElem? (i := 22) rfl)) (gi_cons (lg_wsX7_pass_2 _ (List.mem_of_getElem? (i := 23) rfl)) (gi_cons (lg_wsX7_pass_3 _ (List.mem_of_getElem? (i := 0) rfl)) (gi_cons (lg_wsX7_pass_3 _ (List.mem_of_getElem? (i := 1) rfl)) (gi_cons (lg_wsX7_pass_3 _ (List.mem_of_getElem? (i := 2) rfl)) (gi_cons (lg_wsX7_pass_3 _ (List.mem_of_getElem? (i := 3) rfl)) (gi_cons (lg_wsX7_pass_3 _ (List.mem_of_getElem? (i := 4) rfl)) (gi_cons (lg_wsX7_pass_3 _ (List.mem_of_getElem? (i := 5) rfl)) (gi_cons (lg_wsX7_pass_3 _ (List.mem_of_getElem? (i := 6) rfl)) (gi_cons (lg_wsX7_pass_3 _ (List.mem_of_getElem? (i := 7) rfl)) (gi_cons (lg_wsX7_pass_3 _ (List.mem_of_getElem? (i := 8) rfl)) (gi_cons (lg_wsX7_pass_3 _ (List.mem_of_getElem? (i := 9) rfl)) (gi_cons (lg_wsX7_pass_3 _ (List.mem_of_getElem? (i := 10) rfl)) (gi_cons (lg_wsX7_pass_3 _ (List.mem_of_getElem? (i := 11) rfl)) (gi_cons (lg_wsX7_pass_3 _ (List.mem_of_getElem? (i := 12) rfl)) (gi_cons (lg_wsX7_pass_3 _ (List.mem_of_getElem? (i := 13) rfl)) (gi_cons (lg_wsX7_pass_3 _ (List.mem_of_getElem? (i := 14) rfl)) gi_nil)))))))))))))))))))))))) (gi_cons (lg_wsX7_pass_3 _ (List.mem_of_getElem? (i := 15) rfl)) (gi_cons (lg_wsX7_pass_3 _ (List.mem_of_getElem? (i := 16) rfl)) (gi_cons (lg_wsX7_pass_3 _ (List.mem_of_getElem? (i := 17) rfl)) (gi_cons (lg_wsX7_pass_3 _ (List.mem_of_getElem? (i := 18) rfl)) (gi_cons (lg_wsX7_pass_3 _ (List.mem_of_getElem? (i := 19) rfl)) (gi_cons (lg_wsX7_pass_3 _ (List.mem_of_getElem? (i := 20) rfl)) (gi_cons (lg_wsX7_pass_3 _ (List.mem_of_getElem? (i := 21) rfl)) (gi_cons (lg_wsX7_pass_3 _ (List.mem_of_getElem? (i := 22) rfl)) (gi_cons (lg_wsX7_pass_3 _ (List.mem_of_getElem? (i := 23) rfl)) (gi_cons (lg_wsX7_pass_4 _ (List.mem_of_getElem? (i := 0) rfl)) gi_nil))))))))))))) ls_wsX7_pass_0))
set_option maxRecDepth 20000 in
theorem gX7_pass_X7_beats : GoodIn wsX7_pass (wsV RX7 132 RX7 yX7_beats wsX7_beats) := goodIn_app (gi_cons (lg_wsX7_pass_0 _ (List.mem_of_getElem? (i := 16) rfl)) (gi_cons (lg_wsX7_pass_0 _ (List.mem_of_getElem? (i := 17) rfl)) (gi_cons (lg_wsX7_pass_0 _ (List.mem_of_getElem? (i := 18) rfl)) (gi_cons (lg_wsX7_pass_0 _ (List.mem_of_getElem? (i := 2) rfl)) gi_nil)))) ggX7_pass_X7_beats
theorem dX7_pass_0 : decode cX7_pass 0 = .ok (.aload_n 0, 1) := by decide +kernel
theorem dX7_pass_1 : decode cX7_pass 1 = .ok (.iload_n 1, 1) := by decide +kernel
theorem dX7_pass_2 : decode cX7_pass 2 = .ok (.iconst 1, 1) := by decide +kernel
theorem dX7_pass_3 : decode cX7_pass 3 = .ok (.bipush 30, 2) := by decide +kernel
theorem dX7_pass_5 : decode cX7_pass 5 = .ok (.invokestatic 42, 3) := by decide +kernel
theorem dX7_pass_8 : decode cX7_pass 8 = .ok (.ifCond .eq 7, 3) := by decide +kernel
theorem dX7_pass_11 : decode cX7_pass 11 = .ok (.iconst 0, 1) := by decide +kernel
theorem dX7_pass_12 : decode cX7_pass 12 = .ok (.goto 4, 3) := by decide +kernel
theorem dX7_pass_15 : decode cX7_pass 15 = .ok (.iconst 1, 1) := by decide +kernel
theorem dX7_pass_16 : decode cX7_pass 16 = .ok (.invokevirtual 123, 3) := by decide +kernel
theorem dX7_pass_19 : decode cX7_pass 19 = .ok (.ifCond .ne 5, 3) := by decide +kernel
theorem dX7_pass_22 : decode cX7_pass 22 = .ok (.iconst 0, 1) := by decide +kernel
theorem dX7_pass_23 : decode cX7_pass 23 = .ok (.ireturn, 1) := by decide +kernel
theorem dX7_pass_24 : decode cX7_pass 24 = .ok (.aload_n 0, 1) := by decide +kernel
theorem dX7_pass_25 : decode cX7_pass 25 = .ok (.invokevirtual 117, 3) := by decide +kernel
theorem dX7_pass_28 : decode cX7_pass 28 = .ok (.aload_n 0, 1) := by decide +kernel
theorem dX7_pass_29 : decode cX7_pass 29 = .ok (.iload_n 1, 1) := by decide +kernel
theorem dX7_pass_30 : decode cX7_pass 30 = .ok (.invokevirtual 132, 3) := by decide +kernel
theorem dX7_pass_33 : decode cX7_pass 33 = .ok (.ireturn, 1) := by decide +kernel
theorem lg_wsX7_root_0 : GoodIn wsX7_root ([.methodLink RX7 120 yX7_isTuft, .static yX7_isTuft, .initialized RX7, .code yX7_isTuft cX7_isTuft 1 (some .boolean), .methodLink RX7 42 yX7_in, .static yX7_in, .code yX7_in cX7_in 3 (some .boolean), .methodLink RX7 123 yX7_holds, .instanceMethod yX7_holds, .selects RX7 yX7_holds yX7_holds, .code yX7_holds cX7_holds 2 (some .boolean), .fieldLink RX7 38 "MolesLawnModel" "thrown" "I", .methodLink RX7 135 yX7_lays, .instanceMethod yX7_lays, .selects RX7 yX7_lays yX7_lays, .code yX7_lays cX7_lays 4 (some .int), .fieldLink RX7 7 "MolesLawnModel" "s" "[I", .methodLink RX7 117 yX7_save, .instanceMethod yX7_save, .selects RX7 yX7_save yX7_save, .code yX7_save cX7_save 2 none, .fieldLink RX7 46 "MolesLawnModel" "savedMany" "I", .fieldLink RX7 19 "MolesLawnModel" "saved" "[I"] : List Cond) := goodIn_sub (fun _ h => (List.mem_cons_of_mem _ (List.mem_append_left _ h))) (by decide +kernel)
theorem ls_wsX7_root_0 : GoodIn wsX7_root wsX70 := goodIn_sub (fun _ h => (List.mem_cons_of_mem _ (List.mem_append_right _ h))) (by decide +kernel)
set_option maxRecDepth 20000 in
theorem ggX7_root_X7_isTuft : GoodIn wsX7_root wsX7_isTuft := (gi_cons (lg_wsX7_root_0 _ (List.mem_of_getElem? (i := 3) rfl)) (gi_cons (lg_wsX7_root_0 _ (List.mem_of_getElem? (i := 4) rfl)) (gi_cons (lg_wsX7_root_0 _ (List.mem_of_getElem? (i := 5) rfl)) (gi_cons (lg_wsX7_root_0 _ (List.mem_of_getElem? (i := 2) rfl)) (gi_cons (lg_wsX7_root_0 _ (List.mem_of_getElem? (i := 6) rfl)) gi_nil)))))
set_option maxRecDepth 20000 in
theorem gX7_root_X7_isTuft : GoodIn wsX7_root (va_wsS RX7 120 yX7_isTuft wsX7_isTuft) := goodIn_app (gi_cons (lg_wsX7_root_0 _ (List.mem_of_getElem? (i := 0) rfl)) (gi_cons (lg_wsX7_root_0 _ (List.mem_of_getElem? (i := 1) rfl)) (gi_cons (lg_wsX7_root_0 _ (List.mem_of_getElem? (i := 2) rfl)) gi_nil))) ggX7_root_X7_isTuft
set_option maxRecDepth 20000 in
theorem ggX7_root_X7_in : GoodIn wsX7_root wsX7_in := (gi_cons (lg_wsX7_root_0 _ (List.mem_of_getElem? (i := 6) rfl)) gi_nil)
set_option maxRecDepth 20000 in
theorem gX7_root_X7_in : GoodIn wsX7_root (va_wsS RX7 42 yX7_in wsX7_in) := goodIn_app (gi_cons (lg_wsX7_root_0 _ (List.mem_of_getElem? (i := 4) rfl)) (gi_cons (lg_wsX7_root_0 _ (List.mem_of_getElem? (i := 5) rfl)) (gi_cons (lg_wsX7_root_0 _ (List.mem_of_getElem? (i := 2) rfl)) gi_nil))) ggX7_root_X7_in
set_option maxRecDepth 20000 in
theorem ggX7_root_X7_holds : GoodIn wsX7_root wsX7_holds := (gi_cons (lg_wsX7_root_0 _ (List.mem_of_getElem? (i := 10) rfl)) (goodIn_app (gi_cons (lg_wsX7_root_0 _ (List.mem_of_getElem? (i := 11) rfl)) gi_nil) ls_wsX7_root_0))
set_option maxRecDepth 20000 in
theorem gX7_root_X7_holds : GoodIn wsX7_root (wsV RX7 123 RX7 yX7_holds wsX7_holds) := goodIn_app (gi_cons (lg_wsX7_root_0 _ (List.mem_of_getElem? (i := 7) rfl)) (gi_cons (lg_wsX7_root_0 _ (List.mem_of_getElem? (i := 8) rfl)) (gi_cons (lg_wsX7_root_0 _ (List.mem_of_getElem? (i := 9) rfl)) (gi_cons (lg_wsX7_root_0 _ (List.mem_of_getElem? (i := 2) rfl)) gi_nil)))) ggX7_root_X7_holds
set_option maxRecDepth 20000 in
theorem ggX7_root_X7_lays : GoodIn wsX7_root wsX7_lays := (gi_cons (lg_wsX7_root_0 _ (List.mem_of_getElem? (i := 15) rfl)) (goodIn_app (gi_cons (lg_wsX7_root_0 _ (List.mem_of_getElem? (i := 16) rfl)) (gi_cons (lg_wsX7_root_0 _ (List.mem_of_getElem? (i := 17) rfl)) (gi_cons (lg_wsX7_root_0 _ (List.mem_of_getElem? (i := 18) rfl)) (gi_cons (lg_wsX7_root_0 _ (List.mem_of_getElem? (i := 19) rfl)) (gi_cons (lg_wsX7_root_0 _ (List.mem_of_getElem? (i := 2) rfl)) (gi_cons (lg_wsX7_root_0 _ (List.mem_of_getElem? (i := 20) rfl)) (gi_cons (lg_wsX7_root_0 _ (List.mem_of_getElem? (i := 21) rfl)) (gi_cons (lg_wsX7_root_0 _ (List.mem_of_getElem? (i := 22) rfl)) gi_nil)))))))) ls_wsX7_root_0))
set_option maxRecDepth 20000 in
theorem gX7_root_X7_lays : GoodIn wsX7_root (wsV RX7 135 RX7 yX7_lays wsX7_lays) := goodIn_app (gi_cons (lg_wsX7_root_0 _ (List.mem_of_getElem? (i := 12) rfl)) (gi_cons (lg_wsX7_root_0 _ (List.mem_of_getElem? (i := 13) rfl)) (gi_cons (lg_wsX7_root_0 _ (List.mem_of_getElem? (i := 14) rfl)) (gi_cons (lg_wsX7_root_0 _ (List.mem_of_getElem? (i := 2) rfl)) gi_nil)))) ggX7_root_X7_lays
theorem dX7_root_0 : decode cX7_root 0 = .ok (.aload_n 0, 1) := by decide +kernel
theorem dX7_root_1 : decode cX7_root 1 = .ok (.iload_n 1, 1) := by decide +kernel
theorem dX7_root_2 : decode cX7_root 2 = .ok (.invokestatic 120, 3) := by decide +kernel
theorem dX7_root_5 : decode cX7_root 5 = .ok (.ifCond .ne 7, 3) := by decide +kernel
theorem dX7_root_8 : decode cX7_root 8 = .ok (.iconst 1, 1) := by decide +kernel
theorem dX7_root_9 : decode cX7_root 9 = .ok (.goto 18, 3) := by decide +kernel
theorem dX7_root_12 : decode cX7_root 12 = .ok (.iload_n 2, 1) := by decide +kernel
theorem dX7_root_13 : decode cX7_root 13 = .ok (.iconst 0, 1) := by decide +kernel
theorem dX7_root_14 : decode cX7_root 14 = .ok (.bipush 9, 2) := by decide +kernel
theorem dX7_root_16 : decode cX7_root 16 = .ok (.invokestatic 42, 3) := by decide +kernel
theorem dX7_root_19 : decode cX7_root 19 = .ok (.ifCond .ne 7, 3) := by decide +kernel
theorem dX7_root_22 : decode cX7_root 22 = .ok (.iconst 2, 1) := by decide +kernel
theorem dX7_root_23 : decode cX7_root 23 = .ok (.goto 4, 3) := by decide +kernel
theorem dX7_root_26 : decode cX7_root 26 = .ok (.iconst 0, 1) := by decide +kernel
theorem dX7_root_27 : decode cX7_root 27 = .ok (.invokevirtual 123, 3) := by decide +kernel
theorem dX7_root_30 : decode cX7_root 30 = .ok (.ifCond .eq 15, 3) := by decide +kernel
theorem dX7_root_33 : decode cX7_root 33 = .ok (.aload_n 0, 1) := by decide +kernel
theorem dX7_root_34 : decode cX7_root 34 = .ok (.bipush 72, 2) := by decide +kernel
theorem dX7_root_36 : decode cX7_root 36 = .ok (.iload_n 1, 1) := by decide +kernel
theorem dX7_root_37 : decode cX7_root 37 = .ok (.iadd, 1) := by decide +kernel
theorem dX7_root_38 : decode cX7_root 38 = .ok (.iload_n 2, 1) := by decide +kernel
theorem dX7_root_39 : decode cX7_root 39 = .ok (.invokevirtual 135, 3) := by decide +kernel
theorem dX7_root_42 : decode cX7_root 42 = .ok (.goto 4, 3) := by decide +kernel
theorem dX7_root_45 : decode cX7_root 45 = .ok (.iconst 0, 1) := by decide +kernel
theorem dX7_root_46 : decode cX7_root 46 = .ok (.ireturn, 1) := by decide +kernel
theorem dX7_traps_0 : decode cX7_traps 0 = .ok (.iconst 0, 1) := by decide +kernel
theorem dX7_traps_1 : decode cX7_traps 1 = .ok (.istore_n 1, 1) := by decide +kernel
theorem dX7_traps_2 : decode cX7_traps 2 = .ok (.iconst 0, 1) := by decide +kernel
theorem dX7_traps_3 : decode cX7_traps 3 = .ok (.istore_n 2, 1) := by decide +kernel
theorem dX7_traps_4 : decode cX7_traps 4 = .ok (.iload_n 2, 1) := by decide +kernel
theorem dX7_traps_5 : decode cX7_traps 5 = .ok (.bipush 64, 2) := by decide +kernel
theorem dX7_traps_7 : decode cX7_traps 7 = .ok (.if_icmp .ge 31, 3) := by decide +kernel
theorem dX7_traps_10 : decode cX7_traps 10 = .ok (.iload_n 1, 1) := by decide +kernel
theorem dX7_traps_11 : decode cX7_traps 11 = .ok (.aload_n 0, 1) := by decide +kernel
theorem dX7_traps_12 : decode cX7_traps 12 = .ok (.getfield 7, 3) := by decide +kernel
theorem dX7_traps_15 : decode cX7_traps 15 = .ok (.sipush 136, 3) := by decide +kernel
theorem dX7_traps_18 : decode cX7_traps 18 = .ok (.iload_n 2, 1) := by decide +kernel
theorem dX7_traps_19 : decode cX7_traps 19 = .ok (.iadd, 1) := by decide +kernel
theorem dX7_traps_20 : decode cX7_traps 20 = .ok (.iaload, 1) := by decide +kernel
theorem dX7_traps_21 : decode cX7_traps 21 = .ok (.iconst (-1), 1) := by decide +kernel
theorem dX7_traps_22 : decode cX7_traps 22 = .ok (.if_icmp .ne 7, 3) := by decide +kernel
theorem dX7_traps_25 : decode cX7_traps 25 = .ok (.iconst 0, 1) := by decide +kernel
theorem dX7_traps_26 : decode cX7_traps 26 = .ok (.goto 4, 3) := by decide +kernel
theorem dX7_traps_29 : decode cX7_traps 29 = .ok (.iconst 1, 1) := by decide +kernel
theorem dX7_traps_30 : decode cX7_traps 30 = .ok (.iadd, 1) := by decide +kernel
theorem dX7_traps_31 : decode cX7_traps 31 = .ok (.istore_n 1, 1) := by decide +kernel
theorem dX7_traps_32 : decode cX7_traps 32 = .ok (.iinc 2 1, 3) := by decide +kernel
theorem dX7_traps_35 : decode cX7_traps 35 = .ok (.goto (-31), 3) := by decide +kernel
theorem dX7_traps_38 : decode cX7_traps 38 = .ok (.iload_n 1, 1) := by decide +kernel
theorem dX7_traps_39 : decode cX7_traps 39 = .ok (.ireturn, 1) := by decide +kernel
theorem lg_wsX7_trap_0 : GoodIn wsX7_trap wsX7_trap_r1 := goodIn_sub (fun _ h => (List.mem_cons_of_mem _ (List.mem_append_left _ (List.mem_append_left _ h)))) (by decide +kernel)
theorem lg_wsX7_trap_1 : GoodIn wsX7_trap wsX7_trap_r2 := goodIn_sub (fun _ h => (List.mem_cons_of_mem _ (List.mem_append_left _ (List.mem_append_right _ h)))) (by decide +kernel)
theorem ls_wsX7_trap_0 : GoodIn wsX7_trap wsX70 := goodIn_sub (fun _ h => (List.mem_cons_of_mem _ (List.mem_append_right _ h))) (by decide +kernel)
set_option maxRecDepth 20000 in
theorem ggX7_trap_X7_isTuft : GoodIn wsX7_trap wsX7_isTuft := (gi_cons (lg_wsX7_trap_0 _ (List.mem_of_getElem? (i := 4) rfl)) (gi_cons (lg_wsX7_trap_0 _ (List.mem_of_getElem? (i := 5) rfl)) (gi_cons (lg_wsX7_trap_0 _ (List.mem_of_getElem? (i := 6) rfl)) (gi_cons (lg_wsX7_trap_0 _ (List.mem_of_getElem? (i := 3) rfl)) (gi_cons (lg_wsX7_trap_0 _ (List.mem_of_getElem? (i := 7) rfl)) gi_nil)))))
set_option maxRecDepth 20000 in
theorem gX7_trap_X7_isTuft : GoodIn wsX7_trap (va_wsS RX7 120 yX7_isTuft wsX7_isTuft) := goodIn_app (gi_cons (lg_wsX7_trap_0 _ (List.mem_of_getElem? (i := 1) rfl)) (gi_cons (lg_wsX7_trap_0 _ (List.mem_of_getElem? (i := 2) rfl)) (gi_cons (lg_wsX7_trap_0 _ (List.mem_of_getElem? (i := 3) rfl)) gi_nil))) ggX7_trap_X7_isTuft
set_option maxRecDepth 20000 in
theorem ggX7_trap_X7_in : GoodIn wsX7_trap wsX7_in := (gi_cons (lg_wsX7_trap_0 _ (List.mem_of_getElem? (i := 7) rfl)) gi_nil)
set_option maxRecDepth 20000 in
theorem gX7_trap_X7_in : GoodIn wsX7_trap (va_wsS RX7 42 yX7_in wsX7_in) := goodIn_app (gi_cons (lg_wsX7_trap_0 _ (List.mem_of_getElem? (i := 5) rfl)) (gi_cons (lg_wsX7_trap_0 _ (List.mem_of_getElem? (i := 6) rfl)) (gi_cons (lg_wsX7_trap_0 _ (List.mem_of_getElem? (i := 3) rfl)) gi_nil))) ggX7_trap_X7_in
set_option maxRecDepth 20000 in
theorem ggX7_trap_X7_holds : GoodIn wsX7_trap wsX7_holds := (gi_cons (lg_wsX7_trap_0 _ (List.mem_of_getElem? (i := 11) rfl)) (goodIn_app (gi_cons (lg_wsX7_trap_0 _ (List.mem_of_getElem? (i := 12) rfl)) gi_nil) ls_wsX7_trap_0))
set_option maxRecDepth 20000 in
theorem gX7_trap_X7_holds : GoodIn wsX7_trap (wsV RX7 123 RX7 yX7_holds wsX7_holds) := goodIn_app (gi_cons (lg_wsX7_trap_0 _ (List.mem_of_getElem? (i := 8) rfl)) (gi_cons (lg_wsX7_trap_0 _ (List.mem_of_getElem? (i := 9) rfl)) (gi_cons (lg_wsX7_trap_0 _ (List.mem_of_getElem? (i := 10) rfl)) (gi_cons (lg_wsX7_trap_0 _ (List.mem_of_getElem? (i := 3) rfl)) gi_nil)))) ggX7_trap_X7_holds
set_option maxRecDepth 20000 in
theorem ggX7_trap_X7_lays : GoodIn wsX7_trap wsX7_lays := (gi_cons (lg_wsX7_trap_0 _ (List.mem_of_getElem? (i := 16) rfl)) (goodIn_app (gi_cons (lg_wsX7_trap_0 _ (List.mem_of_getElem? (i := 0) rfl)) (gi_cons (lg_wsX7_trap_0 _ (List.mem_of_getElem? (i := 17) rfl)) (gi_cons (lg_wsX7_trap_0 _ (List.mem_of_getElem? (i := 18) rfl)) (gi_cons (lg_wsX7_trap_0 _ (List.mem_of_getElem? (i := 19) rfl)) (gi_cons (lg_wsX7_trap_0 _ (List.mem_of_getElem? (i := 3) rfl)) (gi_cons (lg_wsX7_trap_0 _ (List.mem_of_getElem? (i := 20) rfl)) (gi_cons (lg_wsX7_trap_0 _ (List.mem_of_getElem? (i := 21) rfl)) (gi_cons (lg_wsX7_trap_0 _ (List.mem_of_getElem? (i := 22) rfl)) gi_nil)))))))) ls_wsX7_trap_0))
set_option maxRecDepth 20000 in
theorem gX7_trap_X7_lays : GoodIn wsX7_trap (wsV RX7 135 RX7 yX7_lays wsX7_lays) := goodIn_app (gi_cons (lg_wsX7_trap_0 _ (List.mem_of_getElem? (i := 13) rfl)) (gi_cons (lg_wsX7_trap_0 _ (List.mem_of_getElem? (i := 14) rfl)) (gi_cons (lg_wsX7_trap_0 _ (List.mem_of_getElem? (i := 15) rfl)) (gi_cons (lg_wsX7_trap_0 _ (List.mem_of_getElem? (i := 3) rfl)) gi_nil)))) ggX7_trap_X7_lays
set_option maxRecDepth 20000 in
theorem ggX7_trap_X7_traps : GoodIn wsX7_trap wsX7_traps := (gi_cons (lg_wsX7_trap_1 _ (List.mem_of_getElem? (i := 2) rfl)) (goodIn_app (gi_cons (lg_wsX7_trap_0 _ (List.mem_of_getElem? (i := 0) rfl)) gi_nil) ls_wsX7_trap_0))
set_option maxRecDepth 20000 in
theorem gX7_trap_X7_traps : GoodIn wsX7_trap (wsV RX7 138 RX7 yX7_traps wsX7_traps) := goodIn_app (gi_cons (lg_wsX7_trap_0 _ (List.mem_of_getElem? (i := 23) rfl)) (gi_cons (lg_wsX7_trap_1 _ (List.mem_of_getElem? (i := 0) rfl)) (gi_cons (lg_wsX7_trap_1 _ (List.mem_of_getElem? (i := 1) rfl)) (gi_cons (lg_wsX7_trap_0 _ (List.mem_of_getElem? (i := 3) rfl)) gi_nil)))) ggX7_trap_X7_traps
theorem dX7_trap_0 : decode cX7_trap 0 = .ok (.aload_n 0, 1) := by decide +kernel
theorem dX7_trap_1 : decode cX7_trap 1 = .ok (.iload_n 1, 1) := by decide +kernel
theorem dX7_trap_2 : decode cX7_trap 2 = .ok (.invokestatic 120, 3) := by decide +kernel
theorem dX7_trap_5 : decode cX7_trap 5 = .ok (.ifCond .ne 7, 3) := by decide +kernel
theorem dX7_trap_8 : decode cX7_trap 8 = .ok (.iconst 1, 1) := by decide +kernel
theorem dX7_trap_9 : decode cX7_trap 9 = .ok (.goto 36, 3) := by decide +kernel
theorem dX7_trap_12 : decode cX7_trap 12 = .ok (.iload_n 2, 1) := by decide +kernel
theorem dX7_trap_13 : decode cX7_trap 13 = .ok (.iconst 0, 1) := by decide +kernel
theorem dX7_trap_14 : decode cX7_trap 14 = .ok (.bipush 20, 2) := by decide +kernel
theorem dX7_trap_16 : decode cX7_trap 16 = .ok (.invokestatic 42, 3) := by decide +kernel
theorem dX7_trap_19 : decode cX7_trap 19 = .ok (.ifCond .ne 7, 3) := by decide +kernel
theorem dX7_trap_22 : decode cX7_trap 22 = .ok (.iconst 2, 1) := by decide +kernel
theorem dX7_trap_23 : decode cX7_trap 23 = .ok (.goto 22, 3) := by decide +kernel
theorem dX7_trap_26 : decode cX7_trap 26 = .ok (.aload_n 0, 1) := by decide +kernel
theorem dX7_trap_27 : decode cX7_trap 27 = .ok (.getfield 7, 3) := by decide +kernel
theorem dX7_trap_30 : decode cX7_trap 30 = .ok (.sipush 136, 3) := by decide +kernel
theorem dX7_trap_33 : decode cX7_trap 33 = .ok (.iload_n 1, 1) := by decide +kernel
theorem dX7_trap_34 : decode cX7_trap 34 = .ok (.iadd, 1) := by decide +kernel
theorem dX7_trap_35 : decode cX7_trap 35 = .ok (.iaload, 1) := by decide +kernel
theorem dX7_trap_36 : decode cX7_trap 36 = .ok (.iconst (-1), 1) := by decide +kernel
theorem dX7_trap_37 : decode cX7_trap 37 = .ok (.if_icmp .eq 7, 3) := by decide +kernel
theorem dX7_trap_40 : decode cX7_trap 40 = .ok (.iconst 3, 1) := by decide +kernel
theorem dX7_trap_41 : decode cX7_trap 41 = .ok (.goto 4, 3) := by decide +kernel
theorem dX7_trap_44 : decode cX7_trap 44 = .ok (.iconst 0, 1) := by decide +kernel
theorem dX7_trap_45 : decode cX7_trap 45 = .ok (.invokevirtual 123, 3) := by decide +kernel
theorem dX7_trap_48 : decode cX7_trap 48 = .ok (.ifCond .ne 5, 3) := by decide +kernel
theorem dX7_trap_51 : decode cX7_trap 51 = .ok (.iconst 0, 1) := by decide +kernel
theorem dX7_trap_52 : decode cX7_trap 52 = .ok (.ireturn, 1) := by decide +kernel
theorem dX7_trap_53 : decode cX7_trap 53 = .ok (.aload_n 0, 1) := by decide +kernel
theorem dX7_trap_54 : decode cX7_trap 54 = .ok (.sipush 136, 3) := by decide +kernel
theorem dX7_trap_57 : decode cX7_trap 57 = .ok (.iload_n 1, 1) := by decide +kernel
theorem dX7_trap_58 : decode cX7_trap 58 = .ok (.iadd, 1) := by decide +kernel
theorem dX7_trap_59 : decode cX7_trap 59 = .ok (.iload_n 2, 1) := by decide +kernel
theorem dX7_trap_60 : decode cX7_trap 60 = .ok (.invokevirtual 135, 3) := by decide +kernel
theorem dX7_trap_63 : decode cX7_trap 63 = .ok (.istore_n 3, 1) := by decide +kernel
theorem dX7_trap_64 : decode cX7_trap 64 = .ok (.aload_n 0, 1) := by decide +kernel
theorem dX7_trap_65 : decode cX7_trap 65 = .ok (.invokevirtual 138, 3) := by decide +kernel
theorem dX7_trap_68 : decode cX7_trap 68 = .ok (.ireturn, 1) := by decide +kernel
theorem lg_wsX7_dug_0 : GoodIn wsX7_dug wsX7_dug_r1 := goodIn_sub (fun _ h => (List.mem_cons_of_mem _ (List.mem_append_left _ (List.mem_append_left _ h)))) (by decide +kernel)
theorem lg_wsX7_dug_1 : GoodIn wsX7_dug wsX7_dug_r2 := goodIn_sub (fun _ h => (List.mem_cons_of_mem _ (List.mem_append_left _ (List.mem_append_right _ (List.mem_append_left _ h))))) (by decide +kernel)
theorem lg_wsX7_dug_2 : GoodIn wsX7_dug wsX7_dug_r3 := goodIn_sub (fun _ h => (List.mem_cons_of_mem _ (List.mem_append_left _ (List.mem_append_right _ (List.mem_append_right _ h))))) (by decide +kernel)
theorem ls_wsX7_dug_0 : GoodIn wsX7_dug wsX70 := goodIn_sub (fun _ h => (List.mem_cons_of_mem _ (List.mem_append_right _ h))) (by decide +kernel)
set_option maxRecDepth 20000 in
theorem ggX7_dug_X7_of : GoodIn wsX7_dug wsX7_of := (gi_cons (lg_wsX7_dug_0 _ (List.mem_of_getElem? (i := 4) rfl)) gi_nil)
set_option maxRecDepth 20000 in
theorem gX7_dug_X7_of : GoodIn wsX7_dug (va_wsS RX7 64 yX7_of wsX7_of) := goodIn_app (gi_cons (lg_wsX7_dug_0 _ (List.mem_of_getElem? (i := 1) rfl)) (gi_cons (lg_wsX7_dug_0 _ (List.mem_of_getElem? (i := 2) rfl)) (gi_cons (lg_wsX7_dug_0 _ (List.mem_of_getElem? (i := 3) rfl)) gi_nil))) ggX7_dug_X7_of
set_option maxRecDepth 20000 in
theorem ggX7_dug_X7_isCaught : GoodIn wsX7_dug wsX7_isCaught := (gi_cons (lg_wsX7_dug_0 _ (List.mem_of_getElem? (i := 8) rfl)) (goodIn_app (gi_cons (lg_wsX7_dug_0 _ (List.mem_of_getElem? (i := 0) rfl)) (gi_cons (lg_wsX7_dug_0 _ (List.mem_of_getElem? (i := 1) rfl)) (gi_cons (lg_wsX7_dug_0 _ (List.mem_of_getElem? (i := 2) rfl)) (gi_cons (lg_wsX7_dug_0 _ (List.mem_of_getElem? (i := 3) rfl)) (gi_cons (lg_wsX7_dug_0 _ (List.mem_of_getElem? (i := 4) rfl)) gi_nil))))) ls_wsX7_dug_0))
set_option maxRecDepth 20000 in
theorem gX7_dug_X7_isCaught : GoodIn wsX7_dug (wsV RX7 85 RX7 yX7_isCaught wsX7_isCaught) := goodIn_app (gi_cons (lg_wsX7_dug_0 _ (List.mem_of_getElem? (i := 5) rfl)) (gi_cons (lg_wsX7_dug_0 _ (List.mem_of_getElem? (i := 6) rfl)) (gi_cons (lg_wsX7_dug_0 _ (List.mem_of_getElem? (i := 7) rfl)) (gi_cons (lg_wsX7_dug_0 _ (List.mem_of_getElem? (i := 3) rfl)) gi_nil)))) ggX7_dug_X7_isCaught
set_option maxRecDepth 20000 in
theorem ggX7_dug_X7_fallsIn : GoodIn wsX7_dug wsX7_fallsIn := (gi_cons (lg_wsX7_dug_0 _ (List.mem_of_getElem? (i := 12) rfl)) (goodIn_app (gi_cons (lg_wsX7_dug_0 _ (List.mem_of_getElem? (i := 0) rfl)) (gi_cons (lg_wsX7_dug_0 _ (List.mem_of_getElem? (i := 13) rfl)) (gi_cons (lg_wsX7_dug_0 _ (List.mem_of_getElem? (i := 14) rfl)) (gi_cons (lg_wsX7_dug_0 _ (List.mem_of_getElem? (i := 15) rfl)) (gi_cons (lg_wsX7_dug_0 _ (List.mem_of_getElem? (i := 3) rfl)) (gi_cons (lg_wsX7_dug_0 _ (List.mem_of_getElem? (i := 16) rfl)) (gi_cons (lg_wsX7_dug_0 _ (List.mem_of_getElem? (i := 17) rfl)) (gi_cons (lg_wsX7_dug_0 _ (List.mem_of_getElem? (i := 18) rfl)) (gi_cons (lg_wsX7_dug_0 _ (List.mem_of_getElem? (i := 19) rfl)) (gi_cons (lg_wsX7_dug_0 _ (List.mem_of_getElem? (i := 20) rfl)) (gi_cons (lg_wsX7_dug_0 _ (List.mem_of_getElem? (i := 21) rfl)) (gi_cons (lg_wsX7_dug_0 _ (List.mem_of_getElem? (i := 22) rfl)) (gi_cons (lg_wsX7_dug_0 _ (List.mem_of_getElem? (i := 23) rfl)) (gi_cons (lg_wsX7_dug_1 _ (List.mem_of_getElem? (i := 0) rfl)) (gi_cons (lg_wsX7_dug_1 _ (List.mem_of_getElem? (i := 1) rfl)) (gi_cons (lg_wsX7_dug_1 _ (List.mem_of_getElem? (i := 2) rfl)) (gi_cons (lg_wsX7_dug_1 _ (List.mem_of_getElem? (i := 3) rfl)) (gi_cons (lg_wsX7_dug_1 _ (List.mem_of_getElem? (i := 4) rfl)) gi_nil)))))))))))))))))) ls_wsX7_dug_0))
set_option maxRecDepth 20000 in
theorem gX7_dug_X7_fallsIn : GoodIn wsX7_dug (wsV RX7 142 RX7 yX7_fallsIn wsX7_fallsIn) := goodIn_app (gi_cons (lg_wsX7_dug_0 _ (List.mem_of_getElem? (i := 9) rfl)) (gi_cons (lg_wsX7_dug_0 _ (List.mem_of_getElem? (i := 10) rfl)) (gi_cons (lg_wsX7_dug_0 _ (List.mem_of_getElem? (i := 11) rfl)) (gi_cons (lg_wsX7_dug_0 _ (List.mem_of_getElem? (i := 3) rfl)) gi_nil)))) ggX7_dug_X7_fallsIn
set_option maxRecDepth 20000 in
theorem ggX7_dug_X7_inTrail : GoodIn wsX7_dug wsX7_inTrail := (gi_cons (lg_wsX7_dug_1 _ (List.mem_of_getElem? (i := 8) rfl)) (goodIn_app (gi_cons (lg_wsX7_dug_0 _ (List.mem_of_getElem? (i := 0) rfl)) (gi_cons (lg_wsX7_dug_0 _ (List.mem_of_getElem? (i := 1) rfl)) (gi_cons (lg_wsX7_dug_0 _ (List.mem_of_getElem? (i := 2) rfl)) (gi_cons (lg_wsX7_dug_0 _ (List.mem_of_getElem? (i := 3) rfl)) (gi_cons (lg_wsX7_dug_0 _ (List.mem_of_getElem? (i := 4) rfl)) gi_nil))))) ls_wsX7_dug_0))
set_option maxRecDepth 20000 in
theorem gX7_dug_X7_inTrail : GoodIn wsX7_dug (wsV RX7 72 RX7 yX7_inTrail wsX7_inTrail) := goodIn_app (gi_cons (lg_wsX7_dug_1 _ (List.mem_of_getElem? (i := 5) rfl)) (gi_cons (lg_wsX7_dug_1 _ (List.mem_of_getElem? (i := 6) rfl)) (gi_cons (lg_wsX7_dug_1 _ (List.mem_of_getElem? (i := 7) rfl)) (gi_cons (lg_wsX7_dug_0 _ (List.mem_of_getElem? (i := 3) rfl)) gi_nil)))) ggX7_dug_X7_inTrail
set_option maxRecDepth 20000 in
theorem ggX7_dug_X7_hasMound : GoodIn wsX7_dug wsX7_hasMound := (gi_cons (lg_wsX7_dug_1 _ (List.mem_of_getElem? (i := 12) rfl)) (goodIn_app (gi_cons (lg_wsX7_dug_0 _ (List.mem_of_getElem? (i := 0) rfl)) gi_nil) ls_wsX7_dug_0))
set_option maxRecDepth 20000 in
theorem gX7_dug_X7_hasMound : GoodIn wsX7_dug (wsV RX7 92 RX7 yX7_hasMound wsX7_hasMound) := goodIn_app (gi_cons (lg_wsX7_dug_1 _ (List.mem_of_getElem? (i := 9) rfl)) (gi_cons (lg_wsX7_dug_1 _ (List.mem_of_getElem? (i := 10) rfl)) (gi_cons (lg_wsX7_dug_1 _ (List.mem_of_getElem? (i := 11) rfl)) (gi_cons (lg_wsX7_dug_0 _ (List.mem_of_getElem? (i := 3) rfl)) gi_nil)))) ggX7_dug_X7_hasMound
set_option maxRecDepth 20000 in
theorem ggX7_dug_X7_comesUp : GoodIn wsX7_dug wsX7_comesUp := (gi_cons (lg_wsX7_dug_1 _ (List.mem_of_getElem? (i := 16) rfl)) (goodIn_app (goodIn_app (gi_cons (lg_wsX7_dug_0 _ (List.mem_of_getElem? (i := 0) rfl)) (gi_cons (lg_wsX7_dug_1 _ (List.mem_of_getElem? (i := 17) rfl)) (gi_cons (lg_wsX7_dug_1 _ (List.mem_of_getElem? (i := 18) rfl)) (gi_cons (lg_wsX7_dug_1 _ (List.mem_of_getElem? (i := 19) rfl)) (gi_cons (lg_wsX7_dug_0 _ (List.mem_of_getElem? (i := 3) rfl)) (gi_cons (lg_wsX7_dug_1 _ (List.mem_of_getElem? (i := 20) rfl)) (gi_cons (lg_wsX7_dug_0 _ (List.mem_of_getElem? (i := 13) rfl)) (gi_cons (lg_wsX7_dug_0 _ (List.mem_of_getElem? (i := 14) rfl)) (gi_cons (lg_wsX7_dug_0 _ (List.mem_of_getElem? (i := 15) rfl)) (gi_cons (lg_wsX7_dug_0 _ (List.mem_of_getElem? (i := 16) rfl)) (gi_cons (lg_wsX7_dug_0 _ (List.mem_of_getElem? (i := 17) rfl)) (gi_cons (lg_wsX7_dug_0 _ (List.mem_of_getElem? (i := 18) rfl)) (gi_cons (lg_wsX7_dug_0 _ (List.mem_of_getElem? (i := 19) rfl)) (gi_cons (lg_wsX7_dug_0 _ (List.mem_of_getElem? (i := 20) rfl)) (gi_cons (lg_wsX7_dug_0 _ (List.mem_of_getElem? (i := 21) rfl)) (gi_cons (lg_wsX7_dug_0 _ (List.mem_of_getElem? (i := 22) rfl)) (gi_cons (lg_wsX7_dug_0 _ (List.mem_of_getElem? (i := 23) rfl)) (gi_cons (lg_wsX7_dug_1 _ (List.mem_of_getElem? (i := 0) rfl)) (gi_cons (lg_wsX7_dug_1 _ (List.mem_of_getElem? (i := 1) rfl)) (gi_cons (lg_wsX7_dug_1 _ (List.mem_of_getElem? (i := 2) rfl)) (gi_cons (lg_wsX7_dug_1 _ (List.mem_of_getElem? (i := 3) rfl)) (gi_cons (lg_wsX7_dug_1 _ (List.mem_of_getElem? (i := 4) rfl)) (gi_cons (lg_wsX7_dug_1 _ (List.mem_of_getElem? (i := 5) rfl)) (gi_cons (lg_wsX7_dug_1 _ (List.mem_of_getElem? (i := 6) rfl)) gi_nil)))))))))))))))))))))))) (gi_cons (lg_wsX7_dug_1 _ (List.mem_of_getElem? (i := 7) rfl)) (gi_cons (lg_wsX7_dug_1 _ (List.mem_of_getElem? (i := 8) rfl)) (gi_cons (lg_wsX7_dug_0 _ (List.mem_of_getElem? (i := 1) rfl)) (gi_cons (lg_wsX7_dug_0 _ (List.mem_of_getElem? (i := 2) rfl)) (gi_cons (lg_wsX7_dug_0 _ (List.mem_of_getElem? (i := 4) rfl)) (gi_cons (lg_wsX7_dug_1 _ (List.mem_of_getElem? (i := 21) rfl)) (gi_cons (lg_wsX7_dug_1 _ (List.mem_of_getElem? (i := 22) rfl)) (gi_cons (lg_wsX7_dug_1 _ (List.mem_of_getElem? (i := 23) rfl)) (gi_cons (lg_wsX7_dug_2 _ (List.mem_of_getElem? (i := 0) rfl)) gi_nil)))))))))) ls_wsX7_dug_0))
set_option maxRecDepth 20000 in
theorem gX7_dug_X7_comesUp : GoodIn wsX7_dug (wsV RX7 99 RX7 yX7_comesUp wsX7_comesUp) := goodIn_app (gi_cons (lg_wsX7_dug_1 _ (List.mem_of_getElem? (i := 13) rfl)) (gi_cons (lg_wsX7_dug_1 _ (List.mem_of_getElem? (i := 14) rfl)) (gi_cons (lg_wsX7_dug_1 _ (List.mem_of_getElem? (i := 15) rfl)) (gi_cons (lg_wsX7_dug_0 _ (List.mem_of_getElem? (i := 3) rfl)) gi_nil)))) ggX7_dug_X7_comesUp
set_option maxRecDepth 20000 in
theorem ggX7_dug_X7_beginsTrail : GoodIn wsX7_dug wsX7_beginsTrail := (gi_cons (lg_wsX7_dug_2 _ (List.mem_of_getElem? (i := 4) rfl)) (goodIn_app (gi_cons (lg_wsX7_dug_0 _ (List.mem_of_getElem? (i := 0) rfl)) (gi_cons (lg_wsX7_dug_0 _ (List.mem_of_getElem? (i := 1) rfl)) (gi_cons (lg_wsX7_dug_0 _ (List.mem_of_getElem? (i := 2) rfl)) (gi_cons (lg_wsX7_dug_0 _ (List.mem_of_getElem? (i := 3) rfl)) (gi_cons (lg_wsX7_dug_0 _ (List.mem_of_getElem? (i := 4) rfl)) gi_nil))))) ls_wsX7_dug_0))
set_option maxRecDepth 20000 in
theorem gX7_dug_X7_beginsTrail : GoodIn wsX7_dug (wsV RX7 79 RX7 yX7_beginsTrail wsX7_beginsTrail) := goodIn_app (gi_cons (lg_wsX7_dug_2 _ (List.mem_of_getElem? (i := 1) rfl)) (gi_cons (lg_wsX7_dug_2 _ (List.mem_of_getElem? (i := 2) rfl)) (gi_cons (lg_wsX7_dug_2 _ (List.mem_of_getElem? (i := 3) rfl)) (gi_cons (lg_wsX7_dug_0 _ (List.mem_of_getElem? (i := 3) rfl)) gi_nil)))) ggX7_dug_X7_beginsTrail
theorem dX7_dug_0 : decode cX7_dug 0 = .ok (.aload_n 0, 1) := by decide +kernel
theorem dX7_dug_1 : decode cX7_dug 1 = .ok (.getfield 7, 3) := by decide +kernel
theorem dX7_dug_4 : decode cX7_dug 4 = .ok (.sipush 200, 3) := by decide +kernel
theorem dX7_dug_7 : decode cX7_dug 7 = .ok (.iload_n 1, 1) := by decide +kernel
theorem dX7_dug_8 : decode cX7_dug 8 = .ok (.iadd, 1) := by decide +kernel
theorem dX7_dug_9 : decode cX7_dug 9 = .ok (.iconst 1, 1) := by decide +kernel
theorem dX7_dug_10 : decode cX7_dug 10 = .ok (.iastore, 1) := by decide +kernel
theorem dX7_dug_11 : decode cX7_dug 11 = .ok (.aload_n 0, 1) := by decide +kernel
theorem dX7_dug_12 : decode cX7_dug 12 = .ok (.getfield 7, 3) := by decide +kernel
theorem dX7_dug_15 : decode cX7_dug 15 = .ok (.bipush 72, 2) := by decide +kernel
theorem dX7_dug_17 : decode cX7_dug 17 = .ok (.iload_n 1, 1) := by decide +kernel
theorem dX7_dug_18 : decode cX7_dug 18 = .ok (.iadd, 1) := by decide +kernel
theorem dX7_dug_19 : decode cX7_dug 19 = .ok (.iconst 0, 1) := by decide +kernel
theorem dX7_dug_20 : decode cX7_dug 20 = .ok (.iastore, 1) := by decide +kernel
theorem dX7_dug_21 : decode cX7_dug 21 = .ok (.aload_n 0, 1) := by decide +kernel
theorem dX7_dug_22 : decode cX7_dug 22 = .ok (.getfield 7, 3) := by decide +kernel
theorem dX7_dug_25 : decode cX7_dug 25 = .ok (.sipush 136, 3) := by decide +kernel
theorem dX7_dug_28 : decode cX7_dug 28 = .ok (.iload_n 1, 1) := by decide +kernel
theorem dX7_dug_29 : decode cX7_dug 29 = .ok (.iadd, 1) := by decide +kernel
theorem dX7_dug_30 : decode cX7_dug 30 = .ok (.iconst (-1), 1) := by decide +kernel
theorem dX7_dug_31 : decode cX7_dug 31 = .ok (.iastore, 1) := by decide +kernel
theorem dX7_dug_32 : decode cX7_dug 32 = .ok (.aload_n 0, 1) := by decide +kernel
theorem dX7_dug_33 : decode cX7_dug 33 = .ok (.getfield 7, 3) := by decide +kernel
theorem dX7_dug_36 : decode cX7_dug 36 = .ok (.iconst 2, 1) := by decide +kernel
theorem dX7_dug_37 : decode cX7_dug 37 = .ok (.iaload, 1) := by decide +kernel
theorem dX7_dug_38 : decode cX7_dug 38 = .ok (.istore_n 2, 1) := by decide +kernel
theorem dX7_dug_39 : decode cX7_dug 39 = .ok (.aload_n 0, 1) := by decide +kernel
theorem dX7_dug_40 : decode cX7_dug 40 = .ok (.getfield 7, 3) := by decide +kernel
theorem dX7_dug_43 : decode cX7_dug 43 = .ok (.iconst 1, 1) := by decide +kernel
theorem dX7_dug_44 : decode cX7_dug 44 = .ok (.iaload, 1) := by decide +kernel
theorem dX7_dug_45 : decode cX7_dug 45 = .ok (.iconst 1, 1) := by decide +kernel
theorem dX7_dug_46 : decode cX7_dug 46 = .ok (.isub, 1) := by decide +kernel
theorem dX7_dug_47 : decode cX7_dug 47 = .ok (.istore_n 3, 1) := by decide +kernel
theorem dX7_dug_48 : decode cX7_dug 48 = .ok (.iload_n 3, 1) := by decide +kernel
theorem dX7_dug_49 : decode cX7_dug 49 = .ok (.ifCond .lt 28, 3) := by decide +kernel
theorem dX7_dug_52 : decode cX7_dug 52 = .ok (.aload_n 0, 1) := by decide +kernel
theorem dX7_dug_53 : decode cX7_dug 53 = .ok (.getfield 7, 3) := by decide +kernel
theorem dX7_dug_56 : decode cX7_dug 56 = .ok (.iload_n 3, 1) := by decide +kernel
theorem dX7_dug_57 : decode cX7_dug 57 = .ok (.iconst 0, 1) := by decide +kernel
theorem dX7_dug_58 : decode cX7_dug 58 = .ok (.invokestatic 64, 3) := by decide +kernel
theorem dX7_dug_61 : decode cX7_dug 61 = .ok (.iaload, 1) := by decide +kernel
theorem dX7_dug_62 : decode cX7_dug 62 = .ok (.iload_n 1, 1) := by decide +kernel
theorem dX7_dug_63 : decode cX7_dug 63 = .ok (.if_icmp .ne 8, 3) := by decide +kernel
theorem dX7_dug_66 : decode cX7_dug 66 = .ok (.aload_n 0, 1) := by decide +kernel
theorem dX7_dug_67 : decode cX7_dug 67 = .ok (.iload_n 3, 1) := by decide +kernel
theorem dX7_dug_68 : decode cX7_dug 68 = .ok (.invokevirtual 85, 3) := by decide +kernel
theorem dX7_dug_71 : decode cX7_dug 71 = .ok (.iinc 3 (-1), 3) := by decide +kernel
theorem dX7_dug_74 : decode cX7_dug 74 = .ok (.goto (-26), 3) := by decide +kernel
theorem dX7_dug_77 : decode cX7_dug 77 = .ok (.aload_n 0, 1) := by decide +kernel
theorem dX7_dug_78 : decode cX7_dug 78 = .ok (.getfield 7, 3) := by decide +kernel
theorem dX7_dug_81 : decode cX7_dug 81 = .ok (.bipush 8, 2) := by decide +kernel
theorem dX7_dug_83 : decode cX7_dug 83 = .ok (.iload_n 1, 1) := by decide +kernel
theorem dX7_dug_84 : decode cX7_dug 84 = .ok (.iadd, 1) := by decide +kernel
theorem dX7_dug_85 : decode cX7_dug 85 = .ok (.iconst 0, 1) := by decide +kernel
theorem dX7_dug_86 : decode cX7_dug 86 = .ok (.iastore, 1) := by decide +kernel
theorem dX7_dug_87 : decode cX7_dug 87 = .ok (.aload_n 0, 1) := by decide +kernel
theorem dX7_dug_88 : decode cX7_dug 88 = .ok (.iload_n 1, 1) := by decide +kernel
theorem dX7_dug_89 : decode cX7_dug 89 = .ok (.invokevirtual 142, 3) := by decide +kernel
theorem dX7_dug_92 : decode cX7_dug 92 = .ok (.istore_n 3, 1) := by decide +kernel
theorem dX7_dug_93 : decode cX7_dug 93 = .ok (.iconst 0, 1) := by decide +kernel
theorem dX7_dug_94 : decode cX7_dug 94 = .ok (.istore 4, 2) := by decide +kernel
theorem dX7_dug_96 : decode cX7_dug 96 = .ok (.iload 4, 2) := by decide +kernel
theorem dX7_dug_98 : decode cX7_dug 98 = .ok (.aload_n 0, 1) := by decide +kernel
theorem dX7_dug_99 : decode cX7_dug 99 = .ok (.getfield 7, 3) := by decide +kernel
theorem dX7_dug_102 : decode cX7_dug 102 = .ok (.iconst 1, 1) := by decide +kernel
theorem dX7_dug_103 : decode cX7_dug 103 = .ok (.iaload, 1) := by decide +kernel
theorem dX7_dug_104 : decode cX7_dug 104 = .ok (.if_icmp .ge 49, 3) := by decide +kernel
theorem dX7_dug_107 : decode cX7_dug 107 = .ok (.aload_n 0, 1) := by decide +kernel
theorem dX7_dug_108 : decode cX7_dug 108 = .ok (.getfield 7, 3) := by decide +kernel
theorem dX7_dug_111 : decode cX7_dug 111 = .ok (.iload 4, 2) := by decide +kernel
theorem dX7_dug_113 : decode cX7_dug 113 = .ok (.bipush 23, 2) := by decide +kernel
theorem dX7_dug_115 : decode cX7_dug 115 = .ok (.invokestatic 64, 3) := by decide +kernel
theorem dX7_dug_118 : decode cX7_dug 118 = .ok (.aload_n 0, 1) := by decide +kernel
theorem dX7_dug_119 : decode cX7_dug 119 = .ok (.iload 4, 2) := by decide +kernel
theorem dX7_dug_121 : decode cX7_dug 121 = .ok (.iload_n 1, 1) := by decide +kernel
theorem dX7_dug_122 : decode cX7_dug 122 = .ok (.iconst 0, 1) := by decide +kernel
theorem dX7_dug_123 : decode cX7_dug 123 = .ok (.invokevirtual 72, 3) := by decide +kernel
theorem dX7_dug_126 : decode cX7_dug 126 = .ok (.iconst (-1), 1) := by decide +kernel
theorem dX7_dug_127 : decode cX7_dug 127 = .ok (.if_icmp .ne 18, 3) := by decide +kernel
theorem dX7_dug_130 : decode cX7_dug 130 = .ok (.aload_n 0, 1) := by decide +kernel
theorem dX7_dug_131 : decode cX7_dug 131 = .ok (.getfield 7, 3) := by decide +kernel
theorem dX7_dug_134 : decode cX7_dug 134 = .ok (.iload 4, 2) := by decide +kernel
theorem dX7_dug_136 : decode cX7_dug 136 = .ok (.bipush 23, 2) := by decide +kernel
theorem dX7_dug_138 : decode cX7_dug 138 = .ok (.invokestatic 64, 3) := by decide +kernel
theorem dX7_dug_141 : decode cX7_dug 141 = .ok (.iaload, 1) := by decide +kernel
theorem dX7_dug_142 : decode cX7_dug 142 = .ok (.goto 4, 3) := by decide +kernel
theorem dX7_dug_145 : decode cX7_dug 145 = .ok (.iconst 0, 1) := by decide +kernel
theorem dX7_dug_146 : decode cX7_dug 146 = .ok (.iastore, 1) := by decide +kernel
theorem dX7_dug_147 : decode cX7_dug 147 = .ok (.iinc 4 1, 3) := by decide +kernel
theorem dX7_dug_150 : decode cX7_dug 150 = .ok (.goto (-54), 3) := by decide +kernel
theorem dX7_dug_153 : decode cX7_dug 153 = .ok (.iconst 0, 1) := by decide +kernel
theorem dX7_dug_154 : decode cX7_dug 154 = .ok (.istore 4, 2) := by decide +kernel
theorem dX7_dug_156 : decode cX7_dug 156 = .ok (.iload 4, 2) := by decide +kernel
theorem dX7_dug_158 : decode cX7_dug 158 = .ok (.aload_n 0, 1) := by decide +kernel
theorem dX7_dug_159 : decode cX7_dug 159 = .ok (.getfield 7, 3) := by decide +kernel
theorem dX7_dug_162 : decode cX7_dug 162 = .ok (.iconst 1, 1) := by decide +kernel
theorem dX7_dug_163 : decode cX7_dug 163 = .ok (.iaload, 1) := by decide +kernel
theorem dX7_dug_164 : decode cX7_dug 164 = .ok (.if_icmp .ge 63, 3) := by decide +kernel
theorem dX7_dug_167 : decode cX7_dug 167 = .ok (.aload_n 0, 1) := by decide +kernel
theorem dX7_dug_168 : decode cX7_dug 168 = .ok (.getfield 7, 3) := by decide +kernel
theorem dX7_dug_171 : decode cX7_dug 171 = .ok (.iload 4, 2) := by decide +kernel
theorem dX7_dug_173 : decode cX7_dug 173 = .ok (.bipush 23, 2) := by decide +kernel
theorem dX7_dug_175 : decode cX7_dug 175 = .ok (.invokestatic 64, 3) := by decide +kernel
theorem dX7_dug_178 : decode cX7_dug 178 = .ok (.iaload, 1) := by decide +kernel
theorem dX7_dug_179 : decode cX7_dug 179 = .ok (.ifCond .ne 42, 3) := by decide +kernel
theorem dX7_dug_182 : decode cX7_dug 182 = .ok (.aload_n 0, 1) := by decide +kernel
theorem dX7_dug_183 : decode cX7_dug 183 = .ok (.aload_n 0, 1) := by decide +kernel
theorem dX7_dug_184 : decode cX7_dug 184 = .ok (.getfield 7, 3) := by decide +kernel
theorem dX7_dug_187 : decode cX7_dug 187 = .ok (.iload 4, 2) := by decide +kernel
theorem dX7_dug_189 : decode cX7_dug 189 = .ok (.iconst 0, 1) := by decide +kernel
theorem dX7_dug_190 : decode cX7_dug 190 = .ok (.invokestatic 64, 3) := by decide +kernel
theorem dX7_dug_193 : decode cX7_dug 193 = .ok (.iaload, 1) := by decide +kernel
theorem dX7_dug_194 : decode cX7_dug 194 = .ok (.invokevirtual 92, 3) := by decide +kernel
theorem dX7_dug_197 : decode cX7_dug 197 = .ok (.ifCond .ne 18, 3) := by decide +kernel
theorem dX7_dug_200 : decode cX7_dug 200 = .ok (.aload_n 0, 1) := by decide +kernel
theorem dX7_dug_201 : decode cX7_dug 201 = .ok (.aload_n 0, 1) := by decide +kernel
theorem dX7_dug_202 : decode cX7_dug 202 = .ok (.getfield 7, 3) := by decide +kernel
theorem dX7_dug_205 : decode cX7_dug 205 = .ok (.iload 4, 2) := by decide +kernel
theorem dX7_dug_207 : decode cX7_dug 207 = .ok (.iconst 0, 1) := by decide +kernel
theorem dX7_dug_208 : decode cX7_dug 208 = .ok (.invokestatic 64, 3) := by decide +kernel
theorem dX7_dug_211 : decode cX7_dug 211 = .ok (.iaload, 1) := by decide +kernel
theorem dX7_dug_212 : decode cX7_dug 212 = .ok (.invokevirtual 99, 3) := by decide +kernel
theorem dX7_dug_215 : decode cX7_dug 215 = .ok (.aload_n 0, 1) := by decide +kernel
theorem dX7_dug_216 : decode cX7_dug 216 = .ok (.iload 4, 2) := by decide +kernel
theorem dX7_dug_218 : decode cX7_dug 218 = .ok (.invokevirtual 79, 3) := by decide +kernel
theorem dX7_dug_221 : decode cX7_dug 221 = .ok (.iinc 4 1, 3) := by decide +kernel
theorem dX7_dug_224 : decode cX7_dug 224 = .ok (.goto (-68), 3) := by decide +kernel
theorem dX7_dug_227 : decode cX7_dug 227 = .ok (.aload_n 0, 1) := by decide +kernel
theorem dX7_dug_228 : decode cX7_dug 228 = .ok (.getfield 7, 3) := by decide +kernel
theorem dX7_dug_231 : decode cX7_dug 231 = .ok (.iconst 2, 1) := by decide +kernel
theorem dX7_dug_232 : decode cX7_dug 232 = .ok (.iaload, 1) := by decide +kernel
theorem dX7_dug_233 : decode cX7_dug 233 = .ok (.iload_n 2, 1) := by decide +kernel
theorem dX7_dug_234 : decode cX7_dug 234 = .ok (.isub, 1) := by decide +kernel
theorem dX7_dug_235 : decode cX7_dug 235 = .ok (.ireturn, 1) := by decide +kernel
theorem lg_wsX7_dig_0 : GoodIn wsX7_dig wsX7_dig_r1 := goodIn_sub (fun _ h => (List.mem_cons_of_mem _ (List.mem_append_left _ (List.mem_append_left _ h)))) (by decide +kernel)
theorem lg_wsX7_dig_1 : GoodIn wsX7_dig wsX7_dig_r2 := goodIn_sub (fun _ h => (List.mem_cons_of_mem _ (List.mem_append_left _ (List.mem_append_right _ (List.mem_append_left _ h))))) (by decide +kernel)
theorem lg_wsX7_dig_2 : GoodIn wsX7_dig wsX7_dig_r3 := goodIn_sub (fun _ h => (List.mem_cons_of_mem _ (List.mem_append_left _ (List.mem_append_right _ (List.mem_append_right _ (List.mem_append_left _ h)))))) (by decide +kernel)
theorem lg_wsX7_dig_3 : GoodIn wsX7_dig wsX7_dig_r4 := goodIn_sub (fun _ h => (List.mem_cons_of_mem _ (List.mem_append_left _ (List.mem_append_right _ (List.mem_append_right _ (List.mem_append_right _ h)))))) (by decide +kernel)
theorem ls_wsX7_dig_0 : GoodIn wsX7_dig wsX70 := goodIn_sub (fun _ h => (List.mem_cons_of_mem _ (List.mem_append_right _ h))) (by decide +kernel)
set_option maxRecDepth 20000 in
theorem ggX7_dig_X7_isTuft : GoodIn wsX7_dig wsX7_isTuft := (gi_cons (lg_wsX7_dig_0 _ (List.mem_of_getElem? (i := 3) rfl)) (gi_cons (lg_wsX7_dig_0 _ (List.mem_of_getElem? (i := 4) rfl)) (gi_cons (lg_wsX7_dig_0 _ (List.mem_of_getElem? (i := 5) rfl)) (gi_cons (lg_wsX7_dig_0 _ (List.mem_of_getElem? (i := 2) rfl)) (gi_cons (lg_wsX7_dig_0 _ (List.mem_of_getElem? (i := 6) rfl)) gi_nil)))))
set_option maxRecDepth 20000 in
theorem gX7_dig_X7_isTuft : GoodIn wsX7_dig (va_wsS RX7 120 yX7_isTuft wsX7_isTuft) := goodIn_app (gi_cons (lg_wsX7_dig_0 _ (List.mem_of_getElem? (i := 0) rfl)) (gi_cons (lg_wsX7_dig_0 _ (List.mem_of_getElem? (i := 1) rfl)) (gi_cons (lg_wsX7_dig_0 _ (List.mem_of_getElem? (i := 2) rfl)) gi_nil))) ggX7_dig_X7_isTuft
set_option maxRecDepth 20000 in
theorem ggX7_dig_X7_holds : GoodIn wsX7_dig wsX7_holds := (gi_cons (lg_wsX7_dig_0 _ (List.mem_of_getElem? (i := 10) rfl)) (goodIn_app (gi_cons (lg_wsX7_dig_0 _ (List.mem_of_getElem? (i := 11) rfl)) gi_nil) ls_wsX7_dig_0))
set_option maxRecDepth 20000 in
theorem gX7_dig_X7_holds : GoodIn wsX7_dig (wsV RX7 123 RX7 yX7_holds wsX7_holds) := goodIn_app (gi_cons (lg_wsX7_dig_0 _ (List.mem_of_getElem? (i := 7) rfl)) (gi_cons (lg_wsX7_dig_0 _ (List.mem_of_getElem? (i := 8) rfl)) (gi_cons (lg_wsX7_dig_0 _ (List.mem_of_getElem? (i := 9) rfl)) (gi_cons (lg_wsX7_dig_0 _ (List.mem_of_getElem? (i := 2) rfl)) gi_nil)))) ggX7_dig_X7_holds
set_option maxRecDepth 20000 in
theorem ggX7_dig_X7_save : GoodIn wsX7_dig wsX7_save := (gi_cons (lg_wsX7_dig_0 _ (List.mem_of_getElem? (i := 15) rfl)) (goodIn_app (gi_cons (lg_wsX7_dig_0 _ (List.mem_of_getElem? (i := 16) rfl)) (gi_cons (lg_wsX7_dig_0 _ (List.mem_of_getElem? (i := 17) rfl)) (gi_cons (lg_wsX7_dig_0 _ (List.mem_of_getElem? (i := 18) rfl)) gi_nil))) ls_wsX7_dig_0))
set_option maxRecDepth 20000 in
theorem gX7_dig_X7_save : GoodIn wsX7_dig (wsV RX7 117 RX7 yX7_save wsX7_save) := goodIn_app (gi_cons (lg_wsX7_dig_0 _ (List.mem_of_getElem? (i := 12) rfl)) (gi_cons (lg_wsX7_dig_0 _ (List.mem_of_getElem? (i := 13) rfl)) (gi_cons (lg_wsX7_dig_0 _ (List.mem_of_getElem? (i := 14) rfl)) (gi_cons (lg_wsX7_dig_0 _ (List.mem_of_getElem? (i := 2) rfl)) gi_nil)))) ggX7_dig_X7_save
set_option maxRecDepth 20000 in
theorem ggX7_dig_X7_dug : GoodIn wsX7_dig wsX7_dug := (gi_cons (lg_wsX7_dig_0 _ (List.mem_of_getElem? (i := 22) rfl)) (goodIn_app (goodIn_app (gi_cons (lg_wsX7_dig_0 _ (List.mem_of_getElem? (i := 18) rfl)) (gi_cons (lg_wsX7_dig_0 _ (List.mem_of_getElem? (i := 23) rfl)) (gi_cons (lg_wsX7_dig_1 _ (List.mem_of_getElem? (i := 0) rfl)) (gi_cons (lg_wsX7_dig_0 _ (List.mem_of_getElem? (i := 2) rfl)) (gi_cons (lg_wsX7_dig_1 _ (List.mem_of_getElem? (i := 1) rfl)) (gi_cons (lg_wsX7_dig_1 _ (List.mem_of_getElem? (i := 2) rfl)) (gi_cons (lg_wsX7_dig_1 _ (List.mem_of_getElem? (i := 3) rfl)) (gi_cons (lg_wsX7_dig_1 _ (List.mem_of_getElem? (i := 4) rfl)) (gi_cons (lg_wsX7_dig_1 _ (List.mem_of_getElem? (i := 5) rfl)) (gi_cons (lg_wsX7_dig_1 _ (List.mem_of_getElem? (i := 6) rfl)) (gi_cons (lg_wsX7_dig_1 _ (List.mem_of_getElem? (i := 7) rfl)) (gi_cons (lg_wsX7_dig_1 _ (List.mem_of_getElem? (i := 8) rfl)) (gi_cons (lg_wsX7_dig_1 _ (List.mem_of_getElem? (i := 9) rfl)) (gi_cons (lg_wsX7_dig_1 _ (List.mem_of_getElem? (i := 10) rfl)) (gi_cons (lg_wsX7_dig_1 _ (List.mem_of_getElem? (i := 11) rfl)) (gi_cons (lg_wsX7_dig_1 _ (List.mem_of_getElem? (i := 12) rfl)) (gi_cons (lg_wsX7_dig_1 _ (List.mem_of_getElem? (i := 13) rfl)) (gi_cons (lg_wsX7_dig_1 _ (List.mem_of_getElem? (i := 14) rfl)) (gi_cons (lg_wsX7_dig_1 _ (List.mem_of_getElem? (i := 15) rfl)) (gi_cons (lg_wsX7_dig_1 _ (List.mem_of_getElem? (i := 16) rfl)) (gi_cons (lg_wsX7_dig_1 _ (List.mem_of_getElem? (i := 17) rfl)) (gi_cons (lg_wsX7_dig_1 _ (List.mem_of_getElem? (i := 18) rfl)) (gi_cons (lg_wsX7_dig_1 _ (List.mem_of_getElem? (i := 19) rfl)) (gi_cons (lg_wsX7_dig_1 _ (List.mem_of_getElem? (i := 20) rfl)) gi_nil)))))))))))))))))))))))) (goodIn_app (gi_cons (lg_wsX7_dig_1 _ (List.mem_of_getElem? (i := 21) rfl)) (gi_cons (lg_wsX7_dig_1 _ (List.mem_of_getElem? (i := 22) rfl)) (gi_cons (lg_wsX7_dig_1 _ (List.mem_of_getElem? (i := 23) rfl)) (gi_cons (lg_wsX7_dig_2 _ (List.mem_of_getElem? (i := 0) rfl)) (gi_cons (lg_wsX7_dig_2 _ (List.mem_of_getElem? (i := 1) rfl)) (gi_cons (lg_wsX7_dig_2 _ (List.mem_of_getElem? (i := 2) rfl)) (gi_cons (lg_wsX7_dig_2 _ (List.mem_of_getElem? (i := 3) rfl)) (gi_cons (lg_wsX7_dig_2 _ (List.mem_of_getElem? (i := 4) rfl)) (gi_cons (lg_wsX7_dig_2 _ (List.mem_of_getElem? (i := 5) rfl)) (gi_cons (lg_wsX7_dig_2 _ (List.mem_of_getElem? (i := 6) rfl)) (gi_cons (lg_wsX7_dig_2 _ (List.mem_of_getElem? (i := 7) rfl)) (gi_cons (lg_wsX7_dig_2 _ (List.mem_of_getElem? (i := 8) rfl)) (gi_cons (lg_wsX7_dig_2 _ (List.mem_of_getElem? (i := 9) rfl)) (gi_cons (lg_wsX7_dig_2 _ (List.mem_of_getElem? (i := 10) rfl)) (gi_cons (lg_wsX7_dig_2 _ (List.mem_of_getElem? (i := 11) rfl)) (gi_cons (lg_wsX7_dig_2 _ (List.mem_of_getElem? (i := 12) rfl)) (gi_cons (lg_wsX7_dig_2 _ (List.mem_of_getElem? (i := 13) rfl)) (gi_cons (lg_wsX7_dig_2 _ (List.mem_of_getElem? (i := 14) rfl)) (gi_cons (lg_wsX7_dig_2 _ (List.mem_of_getElem? (i := 15) rfl)) (gi_cons (lg_wsX7_dig_2 _ (List.mem_of_getElem? (i := 16) rfl)) (gi_cons (lg_wsX7_dig_2 _ (List.mem_of_getElem? (i := 17) rfl)) (gi_cons (lg_wsX7_dig_2 _ (List.mem_of_getElem? (i := 18) rfl)) (gi_cons (lg_wsX7_dig_2 _ (List.mem_of_getElem? (i := 19) rfl)) (gi_cons (lg_wsX7_dig_2 _ (List.mem_of_getElem? (i := 20) rfl)) gi_nil)))))))))))))))))))))))) (gi_cons (lg_wsX7_dig_2 _ (List.mem_of_getElem? (i := 21) rfl)) (gi_cons (lg_wsX7_dig_2 _ (List.mem_of_getElem? (i := 22) rfl)) (gi_cons (lg_wsX7_dig_2 _ (List.mem_of_getElem? (i := 23) rfl)) (gi_cons (lg_wsX7_dig_3 _ (List.mem_of_getElem? (i := 0) rfl)) (gi_cons (lg_wsX7_dig_3 _ (List.mem_of_getElem? (i := 1) rfl)) gi_nil))))))) ls_wsX7_dig_0))
set_option maxRecDepth 20000 in
theorem gX7_dig_X7_dug : GoodIn wsX7_dig (wsV RX7 145 RX7 yX7_dug wsX7_dug) := goodIn_app (gi_cons (lg_wsX7_dig_0 _ (List.mem_of_getElem? (i := 19) rfl)) (gi_cons (lg_wsX7_dig_0 _ (List.mem_of_getElem? (i := 20) rfl)) (gi_cons (lg_wsX7_dig_0 _ (List.mem_of_getElem? (i := 21) rfl)) (gi_cons (lg_wsX7_dig_0 _ (List.mem_of_getElem? (i := 2) rfl)) gi_nil)))) ggX7_dig_X7_dug
theorem dX7_dig_0 : decode cX7_dig 0 = .ok (.aload_n 0, 1) := by decide +kernel
theorem dX7_dig_1 : decode cX7_dig 1 = .ok (.iload_n 1, 1) := by decide +kernel
theorem dX7_dig_2 : decode cX7_dig 2 = .ok (.invokestatic 120, 3) := by decide +kernel
theorem dX7_dig_5 : decode cX7_dig 5 = .ok (.ifCond .eq 7, 3) := by decide +kernel
theorem dX7_dig_8 : decode cX7_dig 8 = .ok (.iconst 0, 1) := by decide +kernel
theorem dX7_dig_9 : decode cX7_dig 9 = .ok (.goto 4, 3) := by decide +kernel
theorem dX7_dig_12 : decode cX7_dig 12 = .ok (.iconst 1, 1) := by decide +kernel
theorem dX7_dig_13 : decode cX7_dig 13 = .ok (.invokevirtual 123, 3) := by decide +kernel
theorem dX7_dig_16 : decode cX7_dig 16 = .ok (.ifCond .ne 5, 3) := by decide +kernel
theorem dX7_dig_19 : decode cX7_dig 19 = .ok (.iconst 0, 1) := by decide +kernel
theorem dX7_dig_20 : decode cX7_dig 20 = .ok (.ireturn, 1) := by decide +kernel
theorem dX7_dig_21 : decode cX7_dig 21 = .ok (.aload_n 0, 1) := by decide +kernel
theorem dX7_dig_22 : decode cX7_dig 22 = .ok (.invokevirtual 117, 3) := by decide +kernel
theorem dX7_dig_25 : decode cX7_dig 25 = .ok (.aload_n 0, 1) := by decide +kernel
theorem dX7_dig_26 : decode cX7_dig 26 = .ok (.iload_n 1, 1) := by decide +kernel
theorem dX7_dig_27 : decode cX7_dig 27 = .ok (.invokevirtual 145, 3) := by decide +kernel
theorem dX7_dig_30 : decode cX7_dig 30 = .ok (.ireturn, 1) := by decide +kernel
theorem lg_wsX7_endsAt_0 : GoodIn wsX7_endsAt ([.methodLink RX7 53 yX7_tuftAt, .instanceMethod yX7_tuftAt, .selects RX7 yX7_tuftAt yX7_tuftAt, .initialized RX7, .code yX7_tuftAt cX7_tuftAt 2 (some .int), .fieldLink RX7 7 "MolesLawnModel" "s" "[I", .methodLink RX7 49 yX7_endFrom, .instanceMethod yX7_endFrom, .selects RX7 yX7_endFrom yX7_endFrom, .code yX7_endFrom cX7_endFrom 3 (some .int)] : List Cond) := goodIn_sub (fun _ h => (List.mem_cons_of_mem _ (List.mem_append_left _ h))) (by decide +kernel)
theorem ls_wsX7_endsAt_0 : GoodIn wsX7_endsAt wsX70 := goodIn_sub (fun _ h => (List.mem_cons_of_mem _ (List.mem_append_right _ h))) (by decide +kernel)
set_option maxRecDepth 20000 in
theorem ggX7_endsAt_X7_tuftAt : GoodIn wsX7_endsAt wsX7_tuftAt := (gi_cons (lg_wsX7_endsAt_0 _ (List.mem_of_getElem? (i := 4) rfl)) (goodIn_app (gi_cons (lg_wsX7_endsAt_0 _ (List.mem_of_getElem? (i := 5) rfl)) gi_nil) ls_wsX7_endsAt_0))
set_option maxRecDepth 20000 in
theorem gX7_endsAt_X7_tuftAt : GoodIn wsX7_endsAt (wsV RX7 53 RX7 yX7_tuftAt wsX7_tuftAt) := goodIn_app (gi_cons (lg_wsX7_endsAt_0 _ (List.mem_of_getElem? (i := 0) rfl)) (gi_cons (lg_wsX7_endsAt_0 _ (List.mem_of_getElem? (i := 1) rfl)) (gi_cons (lg_wsX7_endsAt_0 _ (List.mem_of_getElem? (i := 2) rfl)) (gi_cons (lg_wsX7_endsAt_0 _ (List.mem_of_getElem? (i := 3) rfl)) gi_nil)))) ggX7_endsAt_X7_tuftAt
set_option maxRecDepth 20000 in
theorem ggX7_endsAt_X7_endFrom : GoodIn wsX7_endsAt wsX7_endFrom := (gi_cons (lg_wsX7_endsAt_0 _ (List.mem_of_getElem? (i := 9) rfl)) (goodIn_app (gi_cons (lg_wsX7_endsAt_0 _ (List.mem_of_getElem? (i := 5) rfl)) gi_nil) ls_wsX7_endsAt_0))
set_option maxRecDepth 20000 in
theorem gX7_endsAt_X7_endFrom : GoodIn wsX7_endsAt (wsV RX7 49 RX7 yX7_endFrom wsX7_endFrom) := goodIn_app (gi_cons (lg_wsX7_endsAt_0 _ (List.mem_of_getElem? (i := 6) rfl)) (gi_cons (lg_wsX7_endsAt_0 _ (List.mem_of_getElem? (i := 7) rfl)) (gi_cons (lg_wsX7_endsAt_0 _ (List.mem_of_getElem? (i := 8) rfl)) (gi_cons (lg_wsX7_endsAt_0 _ (List.mem_of_getElem? (i := 3) rfl)) gi_nil)))) ggX7_endsAt_X7_endFrom
theorem dX7_endsAt_0 : decode cX7_endsAt 0 = .ok (.aload_n 0, 1) := by decide +kernel
theorem dX7_endsAt_1 : decode cX7_endsAt 1 = .ok (.iload_n 1, 1) := by decide +kernel
theorem dX7_endsAt_2 : decode cX7_endsAt 2 = .ok (.invokevirtual 53, 3) := by decide +kernel
theorem dX7_endsAt_5 : decode cX7_endsAt 5 = .ok (.iload_n 2, 1) := by decide +kernel
theorem dX7_endsAt_6 : decode cX7_endsAt 6 = .ok (.if_icmp .eq 16, 3) := by decide +kernel
theorem dX7_endsAt_9 : decode cX7_endsAt 9 = .ok (.aload_n 0, 1) := by decide +kernel
theorem dX7_endsAt_10 : decode cX7_endsAt 10 = .ok (.aload_n 0, 1) := by decide +kernel
theorem dX7_endsAt_11 : decode cX7_endsAt 11 = .ok (.iload_n 1, 1) := by decide +kernel
theorem dX7_endsAt_12 : decode cX7_endsAt 12 = .ok (.invokevirtual 49, 3) := by decide +kernel
theorem dX7_endsAt_15 : decode cX7_endsAt 15 = .ok (.invokevirtual 53, 3) := by decide +kernel
theorem dX7_endsAt_18 : decode cX7_endsAt 18 = .ok (.iload_n 2, 1) := by decide +kernel
theorem dX7_endsAt_19 : decode cX7_endsAt 19 = .ok (.if_icmp .ne 7, 3) := by decide +kernel
theorem dX7_endsAt_22 : decode cX7_endsAt 22 = .ok (.iconst 1, 1) := by decide +kernel
theorem dX7_endsAt_23 : decode cX7_endsAt 23 = .ok (.goto 4, 3) := by decide +kernel
theorem dX7_endsAt_26 : decode cX7_endsAt 26 = .ok (.iconst 0, 1) := by decide +kernel
theorem dX7_endsAt_27 : decode cX7_endsAt 27 = .ok (.ireturn, 1) := by decide +kernel
theorem lg_wsX7_otherEnd_0 : GoodIn wsX7_otherEnd ([.methodLink RX7 53 yX7_tuftAt, .instanceMethod yX7_tuftAt, .selects RX7 yX7_tuftAt yX7_tuftAt, .initialized RX7, .code yX7_tuftAt cX7_tuftAt 2 (some .int), .fieldLink RX7 7 "MolesLawnModel" "s" "[I", .methodLink RX7 49 yX7_endFrom, .instanceMethod yX7_endFrom, .selects RX7 yX7_endFrom yX7_endFrom, .code yX7_endFrom cX7_endFrom 3 (some .int)] : List Cond) := goodIn_sub (fun _ h => (List.mem_cons_of_mem _ (List.mem_append_left _ h))) (by decide +kernel)
theorem ls_wsX7_otherEnd_0 : GoodIn wsX7_otherEnd wsX70 := goodIn_sub (fun _ h => (List.mem_cons_of_mem _ (List.mem_append_right _ h))) (by decide +kernel)
set_option maxRecDepth 20000 in
theorem ggX7_otherEnd_X7_tuftAt : GoodIn wsX7_otherEnd wsX7_tuftAt := (gi_cons (lg_wsX7_otherEnd_0 _ (List.mem_of_getElem? (i := 4) rfl)) (goodIn_app (gi_cons (lg_wsX7_otherEnd_0 _ (List.mem_of_getElem? (i := 5) rfl)) gi_nil) ls_wsX7_otherEnd_0))
set_option maxRecDepth 20000 in
theorem gX7_otherEnd_X7_tuftAt : GoodIn wsX7_otherEnd (wsV RX7 53 RX7 yX7_tuftAt wsX7_tuftAt) := goodIn_app (gi_cons (lg_wsX7_otherEnd_0 _ (List.mem_of_getElem? (i := 0) rfl)) (gi_cons (lg_wsX7_otherEnd_0 _ (List.mem_of_getElem? (i := 1) rfl)) (gi_cons (lg_wsX7_otherEnd_0 _ (List.mem_of_getElem? (i := 2) rfl)) (gi_cons (lg_wsX7_otherEnd_0 _ (List.mem_of_getElem? (i := 3) rfl)) gi_nil)))) ggX7_otherEnd_X7_tuftAt
set_option maxRecDepth 20000 in
theorem ggX7_otherEnd_X7_endFrom : GoodIn wsX7_otherEnd wsX7_endFrom := (gi_cons (lg_wsX7_otherEnd_0 _ (List.mem_of_getElem? (i := 9) rfl)) (goodIn_app (gi_cons (lg_wsX7_otherEnd_0 _ (List.mem_of_getElem? (i := 5) rfl)) gi_nil) ls_wsX7_otherEnd_0))
set_option maxRecDepth 20000 in
theorem gX7_otherEnd_X7_endFrom : GoodIn wsX7_otherEnd (wsV RX7 49 RX7 yX7_endFrom wsX7_endFrom) := goodIn_app (gi_cons (lg_wsX7_otherEnd_0 _ (List.mem_of_getElem? (i := 6) rfl)) (gi_cons (lg_wsX7_otherEnd_0 _ (List.mem_of_getElem? (i := 7) rfl)) (gi_cons (lg_wsX7_otherEnd_0 _ (List.mem_of_getElem? (i := 8) rfl)) (gi_cons (lg_wsX7_otherEnd_0 _ (List.mem_of_getElem? (i := 3) rfl)) gi_nil)))) ggX7_otherEnd_X7_endFrom
theorem dX7_otherEnd_0 : decode cX7_otherEnd 0 = .ok (.aload_n 0, 1) := by decide +kernel
theorem dX7_otherEnd_1 : decode cX7_otherEnd 1 = .ok (.iload_n 1, 1) := by decide +kernel
theorem dX7_otherEnd_2 : decode cX7_otherEnd 2 = .ok (.invokevirtual 53, 3) := by decide +kernel
theorem dX7_otherEnd_5 : decode cX7_otherEnd 5 = .ok (.iload_n 2, 1) := by decide +kernel
theorem dX7_otherEnd_6 : decode cX7_otherEnd 6 = .ok (.if_icmp .ne 15, 3) := by decide +kernel
theorem dX7_otherEnd_9 : decode cX7_otherEnd 9 = .ok (.aload_n 0, 1) := by decide +kernel
theorem dX7_otherEnd_10 : decode cX7_otherEnd 10 = .ok (.aload_n 0, 1) := by decide +kernel
theorem dX7_otherEnd_11 : decode cX7_otherEnd 11 = .ok (.iload_n 1, 1) := by decide +kernel
theorem dX7_otherEnd_12 : decode cX7_otherEnd 12 = .ok (.invokevirtual 49, 3) := by decide +kernel
theorem dX7_otherEnd_15 : decode cX7_otherEnd 15 = .ok (.invokevirtual 53, 3) := by decide +kernel
theorem dX7_otherEnd_18 : decode cX7_otherEnd 18 = .ok (.goto 8, 3) := by decide +kernel
theorem dX7_otherEnd_21 : decode cX7_otherEnd 21 = .ok (.aload_n 0, 1) := by decide +kernel
theorem dX7_otherEnd_22 : decode cX7_otherEnd 22 = .ok (.iload_n 1, 1) := by decide +kernel
theorem dX7_otherEnd_23 : decode cX7_otherEnd 23 = .ok (.invokevirtual 53, 3) := by decide +kernel
theorem dX7_otherEnd_26 : decode cX7_otherEnd 26 = .ok (.ireturn, 1) := by decide +kernel
theorem lg_wsX7_nextEnding_0 : GoodIn wsX7_nextEnding ([.fieldLink RX7 7 "MolesLawnModel" "s" "[I", .methodLink RX7 148 yX7_endsAt, .instanceMethod yX7_endsAt, .selects RX7 yX7_endsAt yX7_endsAt, .initialized RX7, .code yX7_endsAt cX7_endsAt 3 (some .boolean), .methodLink RX7 53 yX7_tuftAt, .instanceMethod yX7_tuftAt, .selects RX7 yX7_tuftAt yX7_tuftAt, .code yX7_tuftAt cX7_tuftAt 2 (some .int), .methodLink RX7 49 yX7_endFrom, .instanceMethod yX7_endFrom, .selects RX7 yX7_endFrom yX7_endFrom, .code yX7_endFrom cX7_endFrom 3 (some .int)] : List Cond) := goodIn_sub (fun _ h => (List.mem_cons_of_mem _ (List.mem_append_left _ h))) (by decide +kernel)
theorem ls_wsX7_nextEnding_0 : GoodIn wsX7_nextEnding wsX70 := goodIn_sub (fun _ h => (List.mem_cons_of_mem _ (List.mem_append_right _ h))) (by decide +kernel)
set_option maxRecDepth 20000 in
theorem ggX7_nextEnding_X7_endsAt : GoodIn wsX7_nextEnding wsX7_endsAt := (gi_cons (lg_wsX7_nextEnding_0 _ (List.mem_of_getElem? (i := 5) rfl)) (goodIn_app (gi_cons (lg_wsX7_nextEnding_0 _ (List.mem_of_getElem? (i := 6) rfl)) (gi_cons (lg_wsX7_nextEnding_0 _ (List.mem_of_getElem? (i := 7) rfl)) (gi_cons (lg_wsX7_nextEnding_0 _ (List.mem_of_getElem? (i := 8) rfl)) (gi_cons (lg_wsX7_nextEnding_0 _ (List.mem_of_getElem? (i := 4) rfl)) (gi_cons (lg_wsX7_nextEnding_0 _ (List.mem_of_getElem? (i := 9) rfl)) (gi_cons (lg_wsX7_nextEnding_0 _ (List.mem_of_getElem? (i := 0) rfl)) (gi_cons (lg_wsX7_nextEnding_0 _ (List.mem_of_getElem? (i := 10) rfl)) (gi_cons (lg_wsX7_nextEnding_0 _ (List.mem_of_getElem? (i := 11) rfl)) (gi_cons (lg_wsX7_nextEnding_0 _ (List.mem_of_getElem? (i := 12) rfl)) (gi_cons (lg_wsX7_nextEnding_0 _ (List.mem_of_getElem? (i := 13) rfl)) gi_nil)))))))))) ls_wsX7_nextEnding_0))
set_option maxRecDepth 20000 in
theorem gX7_nextEnding_X7_endsAt : GoodIn wsX7_nextEnding (wsV RX7 148 RX7 yX7_endsAt wsX7_endsAt) := goodIn_app (gi_cons (lg_wsX7_nextEnding_0 _ (List.mem_of_getElem? (i := 1) rfl)) (gi_cons (lg_wsX7_nextEnding_0 _ (List.mem_of_getElem? (i := 2) rfl)) (gi_cons (lg_wsX7_nextEnding_0 _ (List.mem_of_getElem? (i := 3) rfl)) (gi_cons (lg_wsX7_nextEnding_0 _ (List.mem_of_getElem? (i := 4) rfl)) gi_nil)))) ggX7_nextEnding_X7_endsAt
set_option maxRecDepth 20000 in
theorem ggX7_nextEnding_X7_endFrom : GoodIn wsX7_nextEnding wsX7_endFrom := (gi_cons (lg_wsX7_nextEnding_0 _ (List.mem_of_getElem? (i := 13) rfl)) (goodIn_app (gi_cons (lg_wsX7_nextEnding_0 _ (List.mem_of_getElem? (i := 0) rfl)) gi_nil) ls_wsX7_nextEnding_0))
set_option maxRecDepth 20000 in
theorem gX7_nextEnding_X7_endFrom : GoodIn wsX7_nextEnding (wsV RX7 49 RX7 yX7_endFrom wsX7_endFrom) := goodIn_app (gi_cons (lg_wsX7_nextEnding_0 _ (List.mem_of_getElem? (i := 10) rfl)) (gi_cons (lg_wsX7_nextEnding_0 _ (List.mem_of_getElem? (i := 11) rfl)) (gi_cons (lg_wsX7_nextEnding_0 _ (List.mem_of_getElem? (i := 12) rfl)) (gi_cons (lg_wsX7_nextEnding_0 _ (List.mem_of_getElem? (i := 4) rfl)) gi_nil)))) ggX7_nextEnding_X7_endFrom
theorem dX7_nextEnding_0 : decode cX7_nextEnding 0 = .ok (.iload_n 1, 1) := by decide +kernel
theorem dX7_nextEnding_1 : decode cX7_nextEnding 1 = .ok (.istore_n 3, 1) := by decide +kernel
theorem dX7_nextEnding_2 : decode cX7_nextEnding 2 = .ok (.iload_n 3, 1) := by decide +kernel
theorem dX7_nextEnding_3 : decode cX7_nextEnding 3 = .ok (.aload_n 0, 1) := by decide +kernel
theorem dX7_nextEnding_4 : decode cX7_nextEnding 4 = .ok (.getfield 7, 3) := by decide +kernel
theorem dX7_nextEnding_7 : decode cX7_nextEnding 7 = .ok (.bipush 7, 2) := by decide +kernel
theorem dX7_nextEnding_9 : decode cX7_nextEnding 9 = .ok (.iaload, 1) := by decide +kernel
theorem dX7_nextEnding_10 : decode cX7_nextEnding 10 = .ok (.if_icmp .ge 23, 3) := by decide +kernel
theorem dX7_nextEnding_13 : decode cX7_nextEnding 13 = .ok (.aload_n 0, 1) := by decide +kernel
theorem dX7_nextEnding_14 : decode cX7_nextEnding 14 = .ok (.iload_n 3, 1) := by decide +kernel
theorem dX7_nextEnding_15 : decode cX7_nextEnding 15 = .ok (.iload_n 2, 1) := by decide +kernel
theorem dX7_nextEnding_16 : decode cX7_nextEnding 16 = .ok (.invokevirtual 148, 3) := by decide +kernel
theorem dX7_nextEnding_19 : decode cX7_nextEnding 19 = .ok (.ifCond .ne 14, 3) := by decide +kernel
theorem dX7_nextEnding_22 : decode cX7_nextEnding 22 = .ok (.aload_n 0, 1) := by decide +kernel
theorem dX7_nextEnding_23 : decode cX7_nextEnding 23 = .ok (.iload_n 3, 1) := by decide +kernel
theorem dX7_nextEnding_24 : decode cX7_nextEnding 24 = .ok (.invokevirtual 49, 3) := by decide +kernel
theorem dX7_nextEnding_27 : decode cX7_nextEnding 27 = .ok (.iconst 1, 1) := by decide +kernel
theorem dX7_nextEnding_28 : decode cX7_nextEnding 28 = .ok (.iadd, 1) := by decide +kernel
theorem dX7_nextEnding_29 : decode cX7_nextEnding 29 = .ok (.istore_n 3, 1) := by decide +kernel
theorem dX7_nextEnding_30 : decode cX7_nextEnding 30 = .ok (.goto (-28), 3) := by decide +kernel
theorem dX7_nextEnding_33 : decode cX7_nextEnding 33 = .ok (.iload_n 3, 1) := by decide +kernel
theorem dX7_nextEnding_34 : decode cX7_nextEnding 34 = .ok (.aload_n 0, 1) := by decide +kernel
theorem dX7_nextEnding_35 : decode cX7_nextEnding 35 = .ok (.getfield 7, 3) := by decide +kernel
theorem dX7_nextEnding_38 : decode cX7_nextEnding 38 = .ok (.bipush 7, 2) := by decide +kernel
theorem dX7_nextEnding_40 : decode cX7_nextEnding 40 = .ok (.iaload, 1) := by decide +kernel
theorem dX7_nextEnding_41 : decode cX7_nextEnding 41 = .ok (.if_icmp .ge 7, 3) := by decide +kernel
theorem dX7_nextEnding_44 : decode cX7_nextEnding 44 = .ok (.iload_n 3, 1) := by decide +kernel
theorem dX7_nextEnding_45 : decode cX7_nextEnding 45 = .ok (.goto 4, 3) := by decide +kernel
theorem dX7_nextEnding_48 : decode cX7_nextEnding 48 = .ok (.iconst (-1), 1) := by decide +kernel
theorem dX7_nextEnding_49 : decode cX7_nextEnding 49 = .ok (.ireturn, 1) := by decide +kernel
theorem lg_wsX7_endingAt_0 : GoodIn wsX7_endingAt ([.methodLink RX7 151 yX7_nextEnding, .instanceMethod yX7_nextEnding, .selects RX7 yX7_nextEnding yX7_nextEnding, .initialized RX7, .code yX7_nextEnding cX7_nextEnding 4 (some .int), .fieldLink RX7 7 "MolesLawnModel" "s" "[I", .methodLink RX7 148 yX7_endsAt, .instanceMethod yX7_endsAt, .selects RX7 yX7_endsAt yX7_endsAt, .code yX7_endsAt cX7_endsAt 3 (some .boolean), .methodLink RX7 53 yX7_tuftAt, .instanceMethod yX7_tuftAt, .selects RX7 yX7_tuftAt yX7_tuftAt, .code yX7_tuftAt cX7_tuftAt 2 (some .int), .methodLink RX7 49 yX7_endFrom, .instanceMethod yX7_endFrom, .selects RX7 yX7_endFrom yX7_endFrom, .code yX7_endFrom cX7_endFrom 3 (some .int)] : List Cond) := goodIn_sub (fun _ h => (List.mem_cons_of_mem _ (List.mem_append_left _ h))) (by decide +kernel)
theorem ls_wsX7_endingAt_0 : GoodIn wsX7_endingAt wsX70 := goodIn_sub (fun _ h => (List.mem_cons_of_mem _ (List.mem_append_right _ h))) (by decide +kernel)
set_option maxRecDepth 20000 in
theorem ggX7_endingAt_X7_nextEnding : GoodIn wsX7_endingAt wsX7_nextEnding := (gi_cons (lg_wsX7_endingAt_0 _ (List.mem_of_getElem? (i := 4) rfl)) (goodIn_app (gi_cons (lg_wsX7_endingAt_0 _ (List.mem_of_getElem? (i := 5) rfl)) (gi_cons (lg_wsX7_endingAt_0 _ (List.mem_of_getElem? (i := 6) rfl)) (gi_cons (lg_wsX7_endingAt_0 _ (List.mem_of_getElem? (i := 7) rfl)) (gi_cons (lg_wsX7_endingAt_0 _ (List.mem_of_getElem? (i := 8) rfl)) (gi_cons (lg_wsX7_endingAt_0 _ (List.mem_of_getElem? (i := 3) rfl)) (gi_cons (lg_wsX7_endingAt_0 _ (List.mem_of_getElem? (i := 9) rfl)) (gi_cons (lg_wsX7_endingAt_0 _ (List.mem_of_getElem? (i := 10) rfl)) (gi_cons (lg_wsX7_endingAt_0 _ (List.mem_of_getElem? (i := 11) rfl)) (gi_cons (lg_wsX7_endingAt_0 _ (List.mem_of_getElem? (i := 12) rfl)) (gi_cons (lg_wsX7_endingAt_0 _ (List.mem_of_getElem? (i := 13) rfl)) (gi_cons (lg_wsX7_endingAt_0 _ (List.mem_of_getElem? (i := 14) rfl)) (gi_cons (lg_wsX7_endingAt_0 _ (List.mem_of_getElem? (i := 15) rfl)) (gi_cons (lg_wsX7_endingAt_0 _ (List.mem_of_getElem? (i := 16) rfl)) (gi_cons (lg_wsX7_endingAt_0 _ (List.mem_of_getElem? (i := 17) rfl)) gi_nil)))))))))))))) ls_wsX7_endingAt_0))
set_option maxRecDepth 20000 in
theorem gX7_endingAt_X7_nextEnding : GoodIn wsX7_endingAt (wsV RX7 151 RX7 yX7_nextEnding wsX7_nextEnding) := goodIn_app (gi_cons (lg_wsX7_endingAt_0 _ (List.mem_of_getElem? (i := 0) rfl)) (gi_cons (lg_wsX7_endingAt_0 _ (List.mem_of_getElem? (i := 1) rfl)) (gi_cons (lg_wsX7_endingAt_0 _ (List.mem_of_getElem? (i := 2) rfl)) (gi_cons (lg_wsX7_endingAt_0 _ (List.mem_of_getElem? (i := 3) rfl)) gi_nil)))) ggX7_endingAt_X7_nextEnding
set_option maxRecDepth 20000 in
theorem ggX7_endingAt_X7_endFrom : GoodIn wsX7_endingAt wsX7_endFrom := (gi_cons (lg_wsX7_endingAt_0 _ (List.mem_of_getElem? (i := 17) rfl)) (goodIn_app (gi_cons (lg_wsX7_endingAt_0 _ (List.mem_of_getElem? (i := 5) rfl)) gi_nil) ls_wsX7_endingAt_0))
set_option maxRecDepth 20000 in
theorem gX7_endingAt_X7_endFrom : GoodIn wsX7_endingAt (wsV RX7 49 RX7 yX7_endFrom wsX7_endFrom) := goodIn_app (gi_cons (lg_wsX7_endingAt_0 _ (List.mem_of_getElem? (i := 14) rfl)) (gi_cons (lg_wsX7_endingAt_0 _ (List.mem_of_getElem? (i := 15) rfl)) (gi_cons (lg_wsX7_endingAt_0 _ (List.mem_of_getElem? (i := 16) rfl)) (gi_cons (lg_wsX7_endingAt_0 _ (List.mem_of_getElem? (i := 3) rfl)) gi_nil)))) ggX7_endingAt_X7_endFrom
theorem dX7_endingAt_0 : decode cX7_endingAt 0 = .ok (.iconst 0, 1) := by decide +kernel
theorem dX7_endingAt_1 : decode cX7_endingAt 1 = .ok (.istore_n 2, 1) := by decide +kernel
theorem dX7_endingAt_2 : decode cX7_endingAt 2 = .ok (.aload_n 0, 1) := by decide +kernel
theorem dX7_endingAt_3 : decode cX7_endingAt 3 = .ok (.iconst 0, 1) := by decide +kernel
theorem dX7_endingAt_4 : decode cX7_endingAt 4 = .ok (.iload_n 1, 1) := by decide +kernel
theorem dX7_endingAt_5 : decode cX7_endingAt 5 = .ok (.invokevirtual 151, 3) := by decide +kernel
theorem dX7_endingAt_8 : decode cX7_endingAt 8 = .ok (.istore_n 3, 1) := by decide +kernel
theorem dX7_endingAt_9 : decode cX7_endingAt 9 = .ok (.iload_n 3, 1) := by decide +kernel
theorem dX7_endingAt_10 : decode cX7_endingAt 10 = .ok (.iconst (-1), 1) := by decide +kernel
theorem dX7_endingAt_11 : decode cX7_endingAt 11 = .ok (.if_icmp .eq 22, 3) := by decide +kernel
theorem dX7_endingAt_14 : decode cX7_endingAt 14 = .ok (.iinc 2 1, 3) := by decide +kernel
theorem dX7_endingAt_17 : decode cX7_endingAt 17 = .ok (.aload_n 0, 1) := by decide +kernel
theorem dX7_endingAt_18 : decode cX7_endingAt 18 = .ok (.aload_n 0, 1) := by decide +kernel
theorem dX7_endingAt_19 : decode cX7_endingAt 19 = .ok (.iload_n 3, 1) := by decide +kernel
theorem dX7_endingAt_20 : decode cX7_endingAt 20 = .ok (.invokevirtual 49, 3) := by decide +kernel
theorem dX7_endingAt_23 : decode cX7_endingAt 23 = .ok (.iconst 1, 1) := by decide +kernel
theorem dX7_endingAt_24 : decode cX7_endingAt 24 = .ok (.iadd, 1) := by decide +kernel
theorem dX7_endingAt_25 : decode cX7_endingAt 25 = .ok (.iload_n 1, 1) := by decide +kernel
theorem dX7_endingAt_26 : decode cX7_endingAt 26 = .ok (.invokevirtual 151, 3) := by decide +kernel
theorem dX7_endingAt_29 : decode cX7_endingAt 29 = .ok (.istore_n 3, 1) := by decide +kernel
theorem dX7_endingAt_30 : decode cX7_endingAt 30 = .ok (.goto (-21), 3) := by decide +kernel
theorem dX7_endingAt_33 : decode cX7_endingAt 33 = .ok (.iload_n 2, 1) := by decide +kernel
theorem dX7_endingAt_34 : decode cX7_endingAt 34 = .ok (.ireturn, 1) := by decide +kernel
theorem lg_wsX7_joins_0 : GoodIn wsX7_joins ([.fieldLink RX7 25 "MolesLawnModel" "joint" "[I", .fieldLink RX7 7 "MolesLawnModel" "s" "[I", .methodLink RX7 49 yX7_endFrom, .instanceMethod yX7_endFrom, .selects RX7 yX7_endFrom yX7_endFrom, .initialized RX7, .code yX7_endFrom cX7_endFrom 3 (some .int), .methodLink RX7 53 yX7_tuftAt, .instanceMethod yX7_tuftAt, .selects RX7 yX7_tuftAt yX7_tuftAt, .code yX7_tuftAt cX7_tuftAt 2 (some .int), .methodLink RX7 60 yX7_shifts, .instanceMethod yX7_shifts, .selects RX7 yX7_shifts yX7_shifts, .code yX7_shifts cX7_shifts 4 none] : List Cond) := goodIn_sub (fun _ h => (List.mem_cons_of_mem _ (List.mem_append_left _ h))) (by decide +kernel)
theorem ls_wsX7_joins_0 : GoodIn wsX7_joins wsX70 := goodIn_sub (fun _ h => (List.mem_cons_of_mem _ (List.mem_append_right _ h))) (by decide +kernel)
set_option maxRecDepth 20000 in
theorem ggX7_joins_X7_endFrom : GoodIn wsX7_joins wsX7_endFrom := (gi_cons (lg_wsX7_joins_0 _ (List.mem_of_getElem? (i := 6) rfl)) (goodIn_app (gi_cons (lg_wsX7_joins_0 _ (List.mem_of_getElem? (i := 1) rfl)) gi_nil) ls_wsX7_joins_0))
set_option maxRecDepth 20000 in
theorem gX7_joins_X7_endFrom : GoodIn wsX7_joins (wsV RX7 49 RX7 yX7_endFrom wsX7_endFrom) := goodIn_app (gi_cons (lg_wsX7_joins_0 _ (List.mem_of_getElem? (i := 2) rfl)) (gi_cons (lg_wsX7_joins_0 _ (List.mem_of_getElem? (i := 3) rfl)) (gi_cons (lg_wsX7_joins_0 _ (List.mem_of_getElem? (i := 4) rfl)) (gi_cons (lg_wsX7_joins_0 _ (List.mem_of_getElem? (i := 5) rfl)) gi_nil)))) ggX7_joins_X7_endFrom
set_option maxRecDepth 20000 in
theorem ggX7_joins_X7_tuftAt : GoodIn wsX7_joins wsX7_tuftAt := (gi_cons (lg_wsX7_joins_0 _ (List.mem_of_getElem? (i := 10) rfl)) (goodIn_app (gi_cons (lg_wsX7_joins_0 _ (List.mem_of_getElem? (i := 1) rfl)) gi_nil) ls_wsX7_joins_0))
