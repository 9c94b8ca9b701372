theorem lg_wsX7_besideWith_0 : GoodIn wsX7_besideWith ([.fieldLink RX7 32 "MolesLawnModel" "sure" "[I", .methodLink RX7 200 yX7_areBeside, .static yX7_areBeside, .initialized RX7, .code yX7_areBeside cX7_areBeside 2 (some .boolean), .methodLink RX7 42 yX7_in, .static yX7_in, .code yX7_in cX7_in 3 (some .boolean)] : List Cond) := goodIn_sub (fun _ h => (List.mem_cons_of_mem _ (List.mem_append_left _ h))) (by decide +kernel)
theorem ls_wsX7_besideWith_0 : GoodIn wsX7_besideWith wsX70 := goodIn_sub (fun _ h => (List.mem_cons_of_mem _ (List.mem_append_right _ h))) (by decide +kernel)
set_option maxRecDepth 20000 in
theorem ggX7_besideWith_X7_areBeside : GoodIn wsX7_besideWith wsX7_areBeside := (gi_cons (lg_wsX7_besideWith_0 _ (List.mem_of_getElem? (i := 4) rfl)) (gi_cons (lg_wsX7_besideWith_0 _ (List.mem_of_getElem? (i := 5) rfl)) (gi_cons (lg_wsX7_besideWith_0 _ (List.mem_of_getElem? (i := 6) rfl)) (gi_cons (lg_wsX7_besideWith_0 _ (List.mem_of_getElem? (i := 3) rfl)) (gi_cons (lg_wsX7_besideWith_0 _ (List.mem_of_getElem? (i := 7) rfl)) gi_nil)))))
set_option maxRecDepth 20000 in
theorem gX7_besideWith_X7_areBeside : GoodIn wsX7_besideWith (va_wsS RX7 200 yX7_areBeside wsX7_areBeside) := goodIn_app (gi_cons (lg_wsX7_besideWith_0 _ (List.mem_of_getElem? (i := 1) rfl)) (gi_cons (lg_wsX7_besideWith_0 _ (List.mem_of_getElem? (i := 2) rfl)) (gi_cons (lg_wsX7_besideWith_0 _ (List.mem_of_getElem? (i := 3) rfl)) gi_nil))) ggX7_besideWith_X7_areBeside
theorem dX7_besideWith_0 : decode cX7_besideWith 0 = .ok (.iconst 0, 1) := by decide +kernel
theorem dX7_besideWith_1 : decode cX7_besideWith 1 = .ok (.istore_n 3, 1) := by decide +kernel
theorem dX7_besideWith_2 : decode cX7_besideWith 2 = .ok (.iconst 0, 1) := by decide +kernel
theorem dX7_besideWith_3 : decode cX7_besideWith 3 = .ok (.istore 4, 2) := by decide +kernel
theorem dX7_besideWith_5 : decode cX7_besideWith 5 = .ok (.iload 4, 2) := by decide +kernel
theorem dX7_besideWith_7 : decode cX7_besideWith 7 = .ok (.bipush 64, 2) := by decide +kernel
theorem dX7_besideWith_9 : decode cX7_besideWith 9 = .ok (.if_icmp .ge 37, 3) := by decide +kernel
theorem dX7_besideWith_12 : decode cX7_besideWith 12 = .ok (.iload_n 3, 1) := by decide +kernel
theorem dX7_besideWith_13 : decode cX7_besideWith 13 = .ok (.iload_n 1, 1) := by decide +kernel
theorem dX7_besideWith_14 : decode cX7_besideWith 14 = .ok (.iload 4, 2) := by decide +kernel
theorem dX7_besideWith_16 : decode cX7_besideWith 16 = .ok (.invokestatic 200, 3) := by decide +kernel
theorem dX7_besideWith_19 : decode cX7_besideWith 19 = .ok (.ifCond .eq 18, 3) := by decide +kernel
theorem dX7_besideWith_22 : decode cX7_besideWith 22 = .ok (.aload_n 0, 1) := by decide +kernel
theorem dX7_besideWith_23 : decode cX7_besideWith 23 = .ok (.getfield 32, 3) := by decide +kernel
theorem dX7_besideWith_26 : decode cX7_besideWith 26 = .ok (.iload 4, 2) := by decide +kernel
theorem dX7_besideWith_28 : decode cX7_besideWith 28 = .ok (.iaload, 1) := by decide +kernel
theorem dX7_besideWith_29 : decode cX7_besideWith 29 = .ok (.iload_n 2, 1) := by decide +kernel
theorem dX7_besideWith_30 : decode cX7_besideWith 30 = .ok (.if_icmp .ne 7, 3) := by decide +kernel
theorem dX7_besideWith_33 : decode cX7_besideWith 33 = .ok (.iconst 1, 1) := by decide +kernel
theorem dX7_besideWith_34 : decode cX7_besideWith 34 = .ok (.goto 4, 3) := by decide +kernel
theorem dX7_besideWith_37 : decode cX7_besideWith 37 = .ok (.iconst 0, 1) := by decide +kernel
theorem dX7_besideWith_38 : decode cX7_besideWith 38 = .ok (.iadd, 1) := by decide +kernel
theorem dX7_besideWith_39 : decode cX7_besideWith 39 = .ok (.istore_n 3, 1) := by decide +kernel
theorem dX7_besideWith_40 : decode cX7_besideWith 40 = .ok (.iinc 4 1, 3) := by decide +kernel
theorem dX7_besideWith_43 : decode cX7_besideWith 43 = .ok (.goto (-38), 3) := by decide +kernel
theorem dX7_besideWith_46 : decode cX7_besideWith 46 = .ok (.iload_n 3, 1) := by decide +kernel
theorem dX7_besideWith_47 : decode cX7_besideWith 47 = .ok (.ireturn, 1) := by decide +kernel
theorem lg_wsX7_finds_0 : GoodIn wsX7_finds ([.fieldLink RX7 32 "MolesLawnModel" "sure" "[I", .methodLink RX7 203 yX7_numberOf, .instanceMethod yX7_numberOf, .selects RX7 yX7_numberOf yX7_numberOf, .initialized RX7, .code yX7_numberOf cX7_numberOf 4 (some .int), .fieldLink RX7 28 "MolesLawnModel" "isHollow" "[Z", .methodLink RX7 200 yX7_areBeside, .static yX7_areBeside, .code yX7_areBeside cX7_areBeside 2 (some .boolean), .methodLink RX7 42 yX7_in, .static yX7_in, .code yX7_in cX7_in 3 (some .boolean), .methodLink RX7 206 yX7_besideWith, .instanceMethod yX7_besideWith, .selects RX7 yX7_besideWith yX7_besideWith, .code yX7_besideWith cX7_besideWith 5 (some .int)] : List Cond) := goodIn_sub (fun _ h => (List.mem_cons_of_mem _ (List.mem_append_left _ h))) (by decide +kernel)
theorem ls_wsX7_finds_0 : GoodIn wsX7_finds wsX70 := goodIn_sub (fun _ h => (List.mem_cons_of_mem _ (List.mem_append_right _ h))) (by decide +kernel)
set_option maxRecDepth 20000 in
theorem ggX7_finds_X7_numberOf : GoodIn wsX7_finds wsX7_numberOf := (gi_cons (lg_wsX7_finds_0 _ (List.mem_of_getElem? (i := 5) rfl)) (goodIn_app (gi_cons (lg_wsX7_finds_0 _ (List.mem_of_getElem? (i := 6) rfl)) (gi_cons (lg_wsX7_finds_0 _ (List.mem_of_getElem? (i := 7) rfl)) (gi_cons (lg_wsX7_finds_0 _ (List.mem_of_getElem? (i := 8) rfl)) (gi_cons (lg_wsX7_finds_0 _ (List.mem_of_getElem? (i := 4) rfl)) (gi_cons (lg_wsX7_finds_0 _ (List.mem_of_getElem? (i := 9) rfl)) (gi_cons (lg_wsX7_finds_0 _ (List.mem_of_getElem? (i := 10) rfl)) (gi_cons (lg_wsX7_finds_0 _ (List.mem_of_getElem? (i := 11) rfl)) (gi_cons (lg_wsX7_finds_0 _ (List.mem_of_getElem? (i := 12) rfl)) gi_nil)))))))) ls_wsX7_finds_0))
set_option maxRecDepth 20000 in
theorem gX7_finds_X7_numberOf : GoodIn wsX7_finds (wsV RX7 203 RX7 yX7_numberOf wsX7_numberOf) := goodIn_app (gi_cons (lg_wsX7_finds_0 _ (List.mem_of_getElem? (i := 1) rfl)) (gi_cons (lg_wsX7_finds_0 _ (List.mem_of_getElem? (i := 2) rfl)) (gi_cons (lg_wsX7_finds_0 _ (List.mem_of_getElem? (i := 3) rfl)) (gi_cons (lg_wsX7_finds_0 _ (List.mem_of_getElem? (i := 4) rfl)) gi_nil)))) ggX7_finds_X7_numberOf
set_option maxRecDepth 20000 in
theorem ggX7_finds_X7_besideWith : GoodIn wsX7_finds wsX7_besideWith := (gi_cons (lg_wsX7_finds_0 _ (List.mem_of_getElem? (i := 16) rfl)) (goodIn_app (gi_cons (lg_wsX7_finds_0 _ (List.mem_of_getElem? (i := 0) rfl)) (gi_cons (lg_wsX7_finds_0 _ (List.mem_of_getElem? (i := 7) rfl)) (gi_cons (lg_wsX7_finds_0 _ (List.mem_of_getElem? (i := 8) rfl)) (gi_cons (lg_wsX7_finds_0 _ (List.mem_of_getElem? (i := 4) rfl)) (gi_cons (lg_wsX7_finds_0 _ (List.mem_of_getElem? (i := 9) rfl)) (gi_cons (lg_wsX7_finds_0 _ (List.mem_of_getElem? (i := 10) rfl)) (gi_cons (lg_wsX7_finds_0 _ (List.mem_of_getElem? (i := 11) rfl)) (gi_cons (lg_wsX7_finds_0 _ (List.mem_of_getElem? (i := 12) rfl)) gi_nil)))))))) ls_wsX7_finds_0))
set_option maxRecDepth 20000 in
theorem gX7_finds_X7_besideWith : GoodIn wsX7_finds (wsV RX7 206 RX7 yX7_besideWith wsX7_besideWith) := goodIn_app (gi_cons (lg_wsX7_finds_0 _ (List.mem_of_getElem? (i := 13) rfl)) (gi_cons (lg_wsX7_finds_0 _ (List.mem_of_getElem? (i := 14) rfl)) (gi_cons (lg_wsX7_finds_0 _ (List.mem_of_getElem? (i := 15) rfl)) (gi_cons (lg_wsX7_finds_0 _ (List.mem_of_getElem? (i := 4) rfl)) gi_nil)))) ggX7_finds_X7_besideWith
set_option maxRecDepth 20000 in
theorem ggX7_finds_X7_areBeside : GoodIn wsX7_finds wsX7_areBeside := (gi_cons (lg_wsX7_finds_0 _ (List.mem_of_getElem? (i := 9) rfl)) (gi_cons (lg_wsX7_finds_0 _ (List.mem_of_getElem? (i := 10) rfl)) (gi_cons (lg_wsX7_finds_0 _ (List.mem_of_getElem? (i := 11) rfl)) (gi_cons (lg_wsX7_finds_0 _ (List.mem_of_getElem? (i := 4) rfl)) (gi_cons (lg_wsX7_finds_0 _ (List.mem_of_getElem? (i := 12) rfl)) gi_nil)))))
set_option maxRecDepth 20000 in
theorem gX7_finds_X7_areBeside : GoodIn wsX7_finds (va_wsS RX7 200 yX7_areBeside wsX7_areBeside) := goodIn_app (gi_cons (lg_wsX7_finds_0 _ (List.mem_of_getElem? (i := 7) rfl)) (gi_cons (lg_wsX7_finds_0 _ (List.mem_of_getElem? (i := 8) rfl)) (gi_cons (lg_wsX7_finds_0 _ (List.mem_of_getElem? (i := 4) rfl)) gi_nil))) ggX7_finds_X7_areBeside
theorem dX7_finds_0 : decode cX7_finds 0 = .ok (.aload_n 0, 1) := by decide +kernel
theorem dX7_finds_1 : decode cX7_finds 1 = .ok (.iload_n 1, 1) := by decide +kernel
theorem dX7_finds_2 : decode cX7_finds 2 = .ok (.invokevirtual 203, 3) := by decide +kernel
theorem dX7_finds_5 : decode cX7_finds 5 = .ok (.aload_n 0, 1) := by decide +kernel
theorem dX7_finds_6 : decode cX7_finds 6 = .ok (.iload_n 1, 1) := by decide +kernel
theorem dX7_finds_7 : decode cX7_finds 7 = .ok (.iconst 1, 1) := by decide +kernel
theorem dX7_finds_8 : decode cX7_finds 8 = .ok (.invokevirtual 206, 3) := by decide +kernel
theorem dX7_finds_11 : decode cX7_finds 11 = .ok (.isub, 1) := by decide +kernel
theorem dX7_finds_12 : decode cX7_finds 12 = .ok (.istore_n 2, 1) := by decide +kernel
theorem dX7_finds_13 : decode cX7_finds 13 = .ok (.aload_n 0, 1) := by decide +kernel
theorem dX7_finds_14 : decode cX7_finds 14 = .ok (.iload_n 1, 1) := by decide +kernel
theorem dX7_finds_15 : decode cX7_finds 15 = .ok (.iconst (-1), 1) := by decide +kernel
theorem dX7_finds_16 : decode cX7_finds 16 = .ok (.invokevirtual 206, 3) := by decide +kernel
theorem dX7_finds_19 : decode cX7_finds 19 = .ok (.istore_n 3, 1) := by decide +kernel
theorem dX7_finds_20 : decode cX7_finds 20 = .ok (.iload_n 3, 1) := by decide +kernel
theorem dX7_finds_21 : decode cX7_finds 21 = .ok (.ifCond .le 16, 3) := by decide +kernel
theorem dX7_finds_24 : decode cX7_finds 24 = .ok (.iload_n 2, 1) := by decide +kernel
theorem dX7_finds_25 : decode cX7_finds 25 = .ok (.ifCond .eq 8, 3) := by decide +kernel
theorem dX7_finds_28 : decode cX7_finds 28 = .ok (.iload_n 2, 1) := by decide +kernel
theorem dX7_finds_29 : decode cX7_finds 29 = .ok (.iload_n 3, 1) := by decide +kernel
theorem dX7_finds_30 : decode cX7_finds 30 = .ok (.if_icmp .ne 7, 3) := by decide +kernel
theorem dX7_finds_33 : decode cX7_finds 33 = .ok (.iconst 1, 1) := by decide +kernel
theorem dX7_finds_34 : decode cX7_finds 34 = .ok (.goto 4, 3) := by decide +kernel
theorem dX7_finds_37 : decode cX7_finds 37 = .ok (.iconst 0, 1) := by decide +kernel
theorem dX7_finds_38 : decode cX7_finds 38 = .ok (.istore 4, 2) := by decide +kernel
theorem dX7_finds_40 : decode cX7_finds 40 = .ok (.iconst 0, 1) := by decide +kernel
theorem dX7_finds_41 : decode cX7_finds 41 = .ok (.istore 5, 2) := by decide +kernel
theorem dX7_finds_43 : decode cX7_finds 43 = .ok (.iload 5, 2) := by decide +kernel
theorem dX7_finds_45 : decode cX7_finds 45 = .ok (.bipush 64, 2) := by decide +kernel
theorem dX7_finds_47 : decode cX7_finds 47 = .ok (.if_icmp .ge 60, 3) := by decide +kernel
theorem dX7_finds_50 : decode cX7_finds 50 = .ok (.iload 4, 2) := by decide +kernel
theorem dX7_finds_52 : decode cX7_finds 52 = .ok (.ifCond .eq 55, 3) := by decide +kernel
theorem dX7_finds_55 : decode cX7_finds 55 = .ok (.aload_n 0, 1) := by decide +kernel
theorem dX7_finds_56 : decode cX7_finds 56 = .ok (.getfield 32, 3) := by decide +kernel
theorem dX7_finds_59 : decode cX7_finds 59 = .ok (.iload 5, 2) := by decide +kernel
theorem dX7_finds_61 : decode cX7_finds 61 = .ok (.iload_n 1, 1) := by decide +kernel
theorem dX7_finds_62 : decode cX7_finds 62 = .ok (.iload 5, 2) := by decide +kernel
theorem dX7_finds_64 : decode cX7_finds 64 = .ok (.invokestatic 200, 3) := by decide +kernel
theorem dX7_finds_67 : decode cX7_finds 67 = .ok (.ifCond .eq 26, 3) := by decide +kernel
theorem dX7_finds_70 : decode cX7_finds 70 = .ok (.aload_n 0, 1) := by decide +kernel
theorem dX7_finds_71 : decode cX7_finds 71 = .ok (.getfield 32, 3) := by decide +kernel
theorem dX7_finds_74 : decode cX7_finds 74 = .ok (.iload 5, 2) := by decide +kernel
theorem dX7_finds_76 : decode cX7_finds 76 = .ok (.iaload, 1) := by decide +kernel
theorem dX7_finds_77 : decode cX7_finds 77 = .ok (.iconst (-1), 1) := by decide +kernel
theorem dX7_finds_78 : decode cX7_finds 78 = .ok (.if_icmp .ne 15, 3) := by decide +kernel
theorem dX7_finds_81 : decode cX7_finds 81 = .ok (.iload_n 2, 1) := by decide +kernel
theorem dX7_finds_82 : decode cX7_finds 82 = .ok (.ifCond .ne 7, 3) := by decide +kernel
theorem dX7_finds_85 : decode cX7_finds 85 = .ok (.iconst 0, 1) := by decide +kernel
theorem dX7_finds_86 : decode cX7_finds 86 = .ok (.goto 14, 3) := by decide +kernel
theorem dX7_finds_89 : decode cX7_finds 89 = .ok (.iconst 1, 1) := by decide +kernel
theorem dX7_finds_90 : decode cX7_finds 90 = .ok (.goto 10, 3) := by decide +kernel
theorem dX7_finds_93 : decode cX7_finds 93 = .ok (.aload_n 0, 1) := by decide +kernel
theorem dX7_finds_94 : decode cX7_finds 94 = .ok (.getfield 32, 3) := by decide +kernel
theorem dX7_finds_97 : decode cX7_finds 97 = .ok (.iload 5, 2) := by decide +kernel
theorem dX7_finds_99 : decode cX7_finds 99 = .ok (.iaload, 1) := by decide +kernel
theorem dX7_finds_100 : decode cX7_finds 100 = .ok (.iastore, 1) := by decide +kernel
theorem dX7_finds_101 : decode cX7_finds 101 = .ok (.iinc 5 1, 3) := by decide +kernel
theorem dX7_finds_104 : decode cX7_finds 104 = .ok (.goto (-61), 3) := by decide +kernel
theorem dX7_finds_107 : decode cX7_finds 107 = .ok (.iload 4, 2) := by decide +kernel
theorem dX7_finds_109 : decode cX7_finds 109 = .ok (.ireturn, 1) := by decide +kernel
theorem lg_wsX7_laySure_0 : GoodIn wsX7_laySure wsX7_laySure_r1 := goodIn_sub (fun _ h => (List.mem_cons_of_mem _ (List.mem_append_left _ (List.mem_append_left _ h)))) (by decide +kernel)
theorem lg_wsX7_laySure_1 : GoodIn wsX7_laySure wsX7_laySure_r2 := goodIn_sub (fun _ h => (List.mem_cons_of_mem _ (List.mem_append_left _ (List.mem_append_right _ h)))) (by decide +kernel)
theorem ls_wsX7_laySure_0 : GoodIn wsX7_laySure wsX70 := goodIn_sub (fun _ h => (List.mem_cons_of_mem _ (List.mem_append_right _ h))) (by decide +kernel)
set_option maxRecDepth 20000 in
theorem ggX7_laySure_X7_layHollow : GoodIn wsX7_laySure wsX7_layHollow := (gi_cons (lg_wsX7_laySure_0 _ (List.mem_of_getElem? (i := 7) rfl)) (goodIn_app (gi_cons (lg_wsX7_laySure_0 _ (List.mem_of_getElem? (i := 2) rfl)) (gi_cons (lg_wsX7_laySure_0 _ (List.mem_of_getElem? (i := 1) rfl)) (gi_cons (lg_wsX7_laySure_0 _ (List.mem_of_getElem? (i := 8) rfl)) (gi_cons (lg_wsX7_laySure_0 _ (List.mem_of_getElem? (i := 9) rfl)) (gi_cons (lg_wsX7_laySure_0 _ (List.mem_of_getElem? (i := 10) rfl)) (gi_cons (lg_wsX7_laySure_0 _ (List.mem_of_getElem? (i := 6) rfl)) (gi_cons (lg_wsX7_laySure_0 _ (List.mem_of_getElem? (i := 11) rfl)) (gi_cons (lg_wsX7_laySure_0 _ (List.mem_of_getElem? (i := 12) rfl)) (gi_cons (lg_wsX7_laySure_0 _ (List.mem_of_getElem? (i := 13) rfl)) (gi_cons (lg_wsX7_laySure_0 _ (List.mem_of_getElem? (i := 14) rfl)) gi_nil)))))))))) ls_wsX7_laySure_0))
set_option maxRecDepth 20000 in
theorem gX7_laySure_X7_layHollow : GoodIn wsX7_laySure (wsV RX7 197 RX7 yX7_layHollow wsX7_layHollow) := goodIn_app (gi_cons (lg_wsX7_laySure_0 _ (List.mem_of_getElem? (i := 3) rfl)) (gi_cons (lg_wsX7_laySure_0 _ (List.mem_of_getElem? (i := 4) rfl)) (gi_cons (lg_wsX7_laySure_0 _ (List.mem_of_getElem? (i := 5) rfl)) (gi_cons (lg_wsX7_laySure_0 _ (List.mem_of_getElem? (i := 6) rfl)) gi_nil)))) ggX7_laySure_X7_layHollow
set_option maxRecDepth 20000 in
theorem ggX7_laySure_X7_finds : GoodIn wsX7_laySure wsX7_finds := (gi_cons (lg_wsX7_laySure_0 _ (List.mem_of_getElem? (i := 18) rfl)) (goodIn_app (gi_cons (lg_wsX7_laySure_0 _ (List.mem_of_getElem? (i := 0) rfl)) (gi_cons (lg_wsX7_laySure_0 _ (List.mem_of_getElem? (i := 19) rfl)) (gi_cons (lg_wsX7_laySure_0 _ (List.mem_of_getElem? (i := 20) rfl)) (gi_cons (lg_wsX7_laySure_0 _ (List.mem_of_getElem? (i := 21) rfl)) (gi_cons (lg_wsX7_laySure_0 _ (List.mem_of_getElem? (i := 6) rfl)) (gi_cons (lg_wsX7_laySure_0 _ (List.mem_of_getElem? (i := 22) rfl)) (gi_cons (lg_wsX7_laySure_0 _ (List.mem_of_getElem? (i := 2) rfl)) (gi_cons (lg_wsX7_laySure_0 _ (List.mem_of_getElem? (i := 23) rfl)) (gi_cons (lg_wsX7_laySure_1 _ (List.mem_of_getElem? (i := 0) rfl)) (gi_cons (lg_wsX7_laySure_1 _ (List.mem_of_getElem? (i := 1) rfl)) (gi_cons (lg_wsX7_laySure_1 _ (List.mem_of_getElem? (i := 2) rfl)) (gi_cons (lg_wsX7_laySure_1 _ (List.mem_of_getElem? (i := 3) rfl)) (gi_cons (lg_wsX7_laySure_1 _ (List.mem_of_getElem? (i := 4) rfl)) (gi_cons (lg_wsX7_laySure_1 _ (List.mem_of_getElem? (i := 5) rfl)) (gi_cons (lg_wsX7_laySure_1 _ (List.mem_of_getElem? (i := 6) rfl)) (gi_cons (lg_wsX7_laySure_1 _ (List.mem_of_getElem? (i := 7) rfl)) (gi_cons (lg_wsX7_laySure_1 _ (List.mem_of_getElem? (i := 8) rfl)) gi_nil))))))))))))))))) ls_wsX7_laySure_0))
set_option maxRecDepth 20000 in
theorem gX7_laySure_X7_finds : GoodIn wsX7_laySure (wsV RX7 209 RX7 yX7_finds wsX7_finds) := goodIn_app (gi_cons (lg_wsX7_laySure_0 _ (List.mem_of_getElem? (i := 15) rfl)) (gi_cons (lg_wsX7_laySure_0 _ (List.mem_of_getElem? (i := 16) rfl)) (gi_cons (lg_wsX7_laySure_0 _ (List.mem_of_getElem? (i := 17) rfl)) (gi_cons (lg_wsX7_laySure_0 _ (List.mem_of_getElem? (i := 6) rfl)) gi_nil)))) ggX7_laySure_X7_finds
theorem dX7_laySure_0 : decode cX7_laySure 0 = .ok (.aload_n 0, 1) := by decide +kernel
theorem dX7_laySure_1 : decode cX7_laySure 1 = .ok (.invokevirtual 197, 3) := by decide +kernel
theorem dX7_laySure_4 : decode cX7_laySure 4 = .ok (.iconst 0, 1) := by decide +kernel
theorem dX7_laySure_5 : decode cX7_laySure 5 = .ok (.istore_n 1, 1) := by decide +kernel
theorem dX7_laySure_6 : decode cX7_laySure 6 = .ok (.iload_n 1, 1) := by decide +kernel
theorem dX7_laySure_7 : decode cX7_laySure 7 = .ok (.bipush 64, 2) := by decide +kernel
theorem dX7_laySure_9 : decode cX7_laySure 9 = .ok (.if_icmp .ge 46, 3) := by decide +kernel
theorem dX7_laySure_12 : decode cX7_laySure 12 = .ok (.aload_n 0, 1) := by decide +kernel
theorem dX7_laySure_13 : decode cX7_laySure 13 = .ok (.getfield 32, 3) := by decide +kernel
theorem dX7_laySure_16 : decode cX7_laySure 16 = .ok (.iload_n 1, 1) := by decide +kernel
theorem dX7_laySure_17 : decode cX7_laySure 17 = .ok (.aload_n 0, 1) := by decide +kernel
theorem dX7_laySure_18 : decode cX7_laySure 18 = .ok (.getfield 7, 3) := by decide +kernel
theorem dX7_laySure_21 : decode cX7_laySure 21 = .ok (.sipush 200, 3) := by decide +kernel
theorem dX7_laySure_24 : decode cX7_laySure 24 = .ok (.iload_n 1, 1) := by decide +kernel
theorem dX7_laySure_25 : decode cX7_laySure 25 = .ok (.iadd, 1) := by decide +kernel
theorem dX7_laySure_26 : decode cX7_laySure 26 = .ok (.iaload, 1) := by decide +kernel
theorem dX7_laySure_27 : decode cX7_laySure 27 = .ok (.ifCond .ne 7, 3) := by decide +kernel
theorem dX7_laySure_30 : decode cX7_laySure 30 = .ok (.iconst (-1), 1) := by decide +kernel
theorem dX7_laySure_31 : decode cX7_laySure 31 = .ok (.goto 17, 3) := by decide +kernel
theorem dX7_laySure_34 : decode cX7_laySure 34 = .ok (.aload_n 0, 1) := by decide +kernel
theorem dX7_laySure_35 : decode cX7_laySure 35 = .ok (.getfield 28, 3) := by decide +kernel
theorem dX7_laySure_38 : decode cX7_laySure 38 = .ok (.iload_n 1, 1) := by decide +kernel
theorem dX7_laySure_39 : decode cX7_laySure 39 = .ok (.baload, 1) := by decide +kernel
theorem dX7_laySure_40 : decode cX7_laySure 40 = .ok (.ifCond .eq 7, 3) := by decide +kernel
theorem dX7_laySure_43 : decode cX7_laySure 43 = .ok (.iconst 1, 1) := by decide +kernel
theorem dX7_laySure_44 : decode cX7_laySure 44 = .ok (.goto 4, 3) := by decide +kernel
theorem dX7_laySure_47 : decode cX7_laySure 47 = .ok (.iconst 0, 1) := by decide +kernel
theorem dX7_laySure_48 : decode cX7_laySure 48 = .ok (.iastore, 1) := by decide +kernel
theorem dX7_laySure_49 : decode cX7_laySure 49 = .ok (.iinc 1 1, 3) := by decide +kernel
theorem dX7_laySure_52 : decode cX7_laySure 52 = .ok (.goto (-46), 3) := by decide +kernel
theorem dX7_laySure_55 : decode cX7_laySure 55 = .ok (.iconst 1, 1) := by decide +kernel
theorem dX7_laySure_56 : decode cX7_laySure 56 = .ok (.istore_n 1, 1) := by decide +kernel
theorem dX7_laySure_57 : decode cX7_laySure 57 = .ok (.iload_n 1, 1) := by decide +kernel
theorem dX7_laySure_58 : decode cX7_laySure 58 = .ok (.ifCond .eq 64, 3) := by decide +kernel
theorem dX7_laySure_61 : decode cX7_laySure 61 = .ok (.iconst 0, 1) := by decide +kernel
theorem dX7_laySure_62 : decode cX7_laySure 62 = .ok (.istore_n 1, 1) := by decide +kernel
theorem dX7_laySure_63 : decode cX7_laySure 63 = .ok (.iconst 0, 1) := by decide +kernel
theorem dX7_laySure_64 : decode cX7_laySure 64 = .ok (.istore_n 2, 1) := by decide +kernel
theorem dX7_laySure_65 : decode cX7_laySure 65 = .ok (.iload_n 2, 1) := by decide +kernel
theorem dX7_laySure_66 : decode cX7_laySure 66 = .ok (.bipush 64, 2) := by decide +kernel
theorem dX7_laySure_68 : decode cX7_laySure 68 = .ok (.if_icmp .ge 51, 3) := by decide +kernel
theorem dX7_laySure_71 : decode cX7_laySure 71 = .ok (.aload_n 0, 1) := by decide +kernel
theorem dX7_laySure_72 : decode cX7_laySure 72 = .ok (.getfield 7, 3) := by decide +kernel
theorem dX7_laySure_75 : decode cX7_laySure 75 = .ok (.sipush 200, 3) := by decide +kernel
theorem dX7_laySure_78 : decode cX7_laySure 78 = .ok (.iload_n 2, 1) := by decide +kernel
theorem dX7_laySure_79 : decode cX7_laySure 79 = .ok (.iadd, 1) := by decide +kernel
theorem dX7_laySure_80 : decode cX7_laySure 80 = .ok (.iaload, 1) := by decide +kernel
theorem dX7_laySure_81 : decode cX7_laySure 81 = .ok (.iconst 1, 1) := by decide +kernel
theorem dX7_laySure_82 : decode cX7_laySure 82 = .ok (.if_icmp .ne 15, 3) := by decide +kernel
theorem dX7_laySure_85 : decode cX7_laySure 85 = .ok (.aload_n 0, 1) := by decide +kernel
theorem dX7_laySure_86 : decode cX7_laySure 86 = .ok (.iload_n 2, 1) := by decide +kernel
theorem dX7_laySure_87 : decode cX7_laySure 87 = .ok (.invokevirtual 209, 3) := by decide +kernel
theorem dX7_laySure_90 : decode cX7_laySure 90 = .ok (.ifCond .eq 7, 3) := by decide +kernel
theorem dX7_laySure_93 : decode cX7_laySure 93 = .ok (.iconst 1, 1) := by decide +kernel
theorem dX7_laySure_94 : decode cX7_laySure 94 = .ok (.goto 4, 3) := by decide +kernel
theorem dX7_laySure_97 : decode cX7_laySure 97 = .ok (.iconst 0, 1) := by decide +kernel
theorem dX7_laySure_98 : decode cX7_laySure 98 = .ok (.istore_n 3, 1) := by decide +kernel
theorem dX7_laySure_99 : decode cX7_laySure 99 = .ok (.iload_n 1, 1) := by decide +kernel
theorem dX7_laySure_100 : decode cX7_laySure 100 = .ok (.ifCond .ne 7, 3) := by decide +kernel
theorem dX7_laySure_103 : decode cX7_laySure 103 = .ok (.iload_n 3, 1) := by decide +kernel
theorem dX7_laySure_104 : decode cX7_laySure 104 = .ok (.ifCond .eq 7, 3) := by decide +kernel
theorem dX7_laySure_107 : decode cX7_laySure 107 = .ok (.iconst 1, 1) := by decide +kernel
theorem dX7_laySure_108 : decode cX7_laySure 108 = .ok (.goto 4, 3) := by decide +kernel
theorem dX7_laySure_111 : decode cX7_laySure 111 = .ok (.iconst 0, 1) := by decide +kernel
theorem dX7_laySure_112 : decode cX7_laySure 112 = .ok (.istore_n 1, 1) := by decide +kernel
theorem dX7_laySure_113 : decode cX7_laySure 113 = .ok (.iinc 2 1, 3) := by decide +kernel
theorem dX7_laySure_116 : decode cX7_laySure 116 = .ok (.goto (-51), 3) := by decide +kernel
theorem dX7_laySure_119 : decode cX7_laySure 119 = .ok (.goto (-62), 3) := by decide +kernel
theorem dX7_laySure_122 : decode cX7_laySure 122 = .ok (.return_, 1) := by decide +kernel
theorem lg_wsX7_tunnelsWith_0 : GoodIn wsX7_tunnelsWith ([.fieldLink RX7 7 "MolesLawnModel" "s" "[I", .methodLink RX7 49 yX7_endFrom, .instanceMethod yX7_endFrom, .selects RX7 yX7_endFrom yX7_endFrom, .initialized RX7, .code yX7_endFrom cX7_endFrom 3 (some .int), .methodLink RX7 56 yX7_find, .instanceMethod yX7_find, .selects RX7 yX7_find yX7_find, .code yX7_find cX7_find 7 (some .int), .methodLink RX7 53 yX7_tuftAt, .instanceMethod yX7_tuftAt, .selects RX7 yX7_tuftAt yX7_tuftAt, .code yX7_tuftAt cX7_tuftAt 2 (some .int)] : List Cond) := goodIn_sub (fun _ h => (List.mem_cons_of_mem _ (List.mem_append_left _ h))) (by decide +kernel)
theorem ls_wsX7_tunnelsWith_0 : GoodIn wsX7_tunnelsWith wsX70 := goodIn_sub (fun _ h => (List.mem_cons_of_mem _ (List.mem_append_right _ h))) (by decide +kernel)
set_option maxRecDepth 20000 in
theorem ggX7_tunnelsWith_X7_endFrom : GoodIn wsX7_tunnelsWith wsX7_endFrom := (gi_cons (lg_wsX7_tunnelsWith_0 _ (List.mem_of_getElem? (i := 5) rfl)) (goodIn_app (gi_cons (lg_wsX7_tunnelsWith_0 _ (List.mem_of_getElem? (i := 0) rfl)) gi_nil) ls_wsX7_tunnelsWith_0))
set_option maxRecDepth 20000 in
theorem gX7_tunnelsWith_X7_endFrom : GoodIn wsX7_tunnelsWith (wsV RX7 49 RX7 yX7_endFrom wsX7_endFrom) := goodIn_app (gi_cons (lg_wsX7_tunnelsWith_0 _ (List.mem_of_getElem? (i := 1) rfl)) (gi_cons (lg_wsX7_tunnelsWith_0 _ (List.mem_of_getElem? (i := 2) rfl)) (gi_cons (lg_wsX7_tunnelsWith_0 _ (List.mem_of_getElem? (i := 3) rfl)) (gi_cons (lg_wsX7_tunnelsWith_0 _ (List.mem_of_getElem? (i := 4) rfl)) gi_nil)))) ggX7_tunnelsWith_X7_endFrom
set_option maxRecDepth 20000 in
theorem ggX7_tunnelsWith_X7_find : GoodIn wsX7_tunnelsWith wsX7_find := (gi_cons (lg_wsX7_tunnelsWith_0 _ (List.mem_of_getElem? (i := 9) rfl)) (goodIn_app (gi_cons (lg_wsX7_tunnelsWith_0 _ (List.mem_of_getElem? (i := 10) rfl)) (gi_cons (lg_wsX7_tunnelsWith_0 _ (List.mem_of_getElem? (i := 11) rfl)) (gi_cons (lg_wsX7_tunnelsWith_0 _ (List.mem_of_getElem? (i := 12) rfl)) (gi_cons (lg_wsX7_tunnelsWith_0 _ (List.mem_of_getElem? (i := 4) rfl)) (gi_cons (lg_wsX7_tunnelsWith_0 _ (List.mem_of_getElem? (i := 13) rfl)) (gi_cons (lg_wsX7_tunnelsWith_0 _ (List.mem_of_getElem? (i := 0) rfl)) gi_nil)))))) ls_wsX7_tunnelsWith_0))
set_option maxRecDepth 20000 in
theorem gX7_tunnelsWith_X7_find : GoodIn wsX7_tunnelsWith (wsV RX7 56 RX7 yX7_find wsX7_find) := goodIn_app (gi_cons (lg_wsX7_tunnelsWith_0 _ (List.mem_of_getElem? (i := 6) rfl)) (gi_cons (lg_wsX7_tunnelsWith_0 _ (List.mem_of_getElem? (i := 7) rfl)) (gi_cons (lg_wsX7_tunnelsWith_0 _ (List.mem_of_getElem? (i := 8) rfl)) (gi_cons (lg_wsX7_tunnelsWith_0 _ (List.mem_of_getElem? (i := 4) rfl)) gi_nil)))) ggX7_tunnelsWith_X7_find
theorem dX7_tunnelsWith_0 : decode cX7_tunnelsWith 0 = .ok (.iconst 0, 1) := by decide +kernel
theorem dX7_tunnelsWith_1 : decode cX7_tunnelsWith 1 = .ok (.istore_n 2, 1) := by decide +kernel
theorem dX7_tunnelsWith_2 : decode cX7_tunnelsWith 2 = .ok (.iconst 0, 1) := by decide +kernel
theorem dX7_tunnelsWith_3 : decode cX7_tunnelsWith 3 = .ok (.istore_n 3, 1) := by decide +kernel
theorem dX7_tunnelsWith_4 : decode cX7_tunnelsWith 4 = .ok (.iload_n 3, 1) := by decide +kernel
theorem dX7_tunnelsWith_5 : decode cX7_tunnelsWith 5 = .ok (.aload_n 0, 1) := by decide +kernel
theorem dX7_tunnelsWith_6 : decode cX7_tunnelsWith 6 = .ok (.getfield 7, 3) := by decide +kernel
theorem dX7_tunnelsWith_9 : decode cX7_tunnelsWith 9 = .ok (.bipush 7, 2) := by decide +kernel
theorem dX7_tunnelsWith_11 : decode cX7_tunnelsWith 11 = .ok (.iaload, 1) := by decide +kernel
theorem dX7_tunnelsWith_12 : decode cX7_tunnelsWith 12 = .ok (.if_icmp .ge 38, 3) := by decide +kernel
theorem dX7_tunnelsWith_15 : decode cX7_tunnelsWith 15 = .ok (.iload_n 2, 1) := by decide +kernel
theorem dX7_tunnelsWith_16 : decode cX7_tunnelsWith 16 = .ok (.aload_n 0, 1) := by decide +kernel
theorem dX7_tunnelsWith_17 : decode cX7_tunnelsWith 17 = .ok (.iload_n 1, 1) := by decide +kernel
theorem dX7_tunnelsWith_18 : decode cX7_tunnelsWith 18 = .ok (.iload_n 3, 1) := by decide +kernel
theorem dX7_tunnelsWith_19 : decode cX7_tunnelsWith 19 = .ok (.aload_n 0, 1) := by decide +kernel
theorem dX7_tunnelsWith_20 : decode cX7_tunnelsWith 20 = .ok (.iload_n 3, 1) := by decide +kernel
theorem dX7_tunnelsWith_21 : decode cX7_tunnelsWith 21 = .ok (.invokevirtual 49, 3) := by decide +kernel
theorem dX7_tunnelsWith_24 : decode cX7_tunnelsWith 24 = .ok (.iconst 0, 1) := by decide +kernel
theorem dX7_tunnelsWith_25 : decode cX7_tunnelsWith 25 = .ok (.invokevirtual 56, 3) := by decide +kernel
theorem dX7_tunnelsWith_28 : decode cX7_tunnelsWith 28 = .ok (.iconst (-1), 1) := by decide +kernel
theorem dX7_tunnelsWith_29 : decode cX7_tunnelsWith 29 = .ok (.if_icmp .ne 7, 3) := by decide +kernel
theorem dX7_tunnelsWith_32 : decode cX7_tunnelsWith 32 = .ok (.iconst 0, 1) := by decide +kernel
theorem dX7_tunnelsWith_33 : decode cX7_tunnelsWith 33 = .ok (.goto 4, 3) := by decide +kernel
theorem dX7_tunnelsWith_36 : decode cX7_tunnelsWith 36 = .ok (.iconst 1, 1) := by decide +kernel
theorem dX7_tunnelsWith_37 : decode cX7_tunnelsWith 37 = .ok (.iadd, 1) := by decide +kernel
theorem dX7_tunnelsWith_38 : decode cX7_tunnelsWith 38 = .ok (.istore_n 2, 1) := by decide +kernel
theorem dX7_tunnelsWith_39 : decode cX7_tunnelsWith 39 = .ok (.aload_n 0, 1) := by decide +kernel
theorem dX7_tunnelsWith_40 : decode cX7_tunnelsWith 40 = .ok (.iload_n 3, 1) := by decide +kernel
theorem dX7_tunnelsWith_41 : decode cX7_tunnelsWith 41 = .ok (.invokevirtual 49, 3) := by decide +kernel
theorem dX7_tunnelsWith_44 : decode cX7_tunnelsWith 44 = .ok (.iconst 1, 1) := by decide +kernel
theorem dX7_tunnelsWith_45 : decode cX7_tunnelsWith 45 = .ok (.iadd, 1) := by decide +kernel
theorem dX7_tunnelsWith_46 : decode cX7_tunnelsWith 46 = .ok (.istore_n 3, 1) := by decide +kernel
theorem dX7_tunnelsWith_47 : decode cX7_tunnelsWith 47 = .ok (.goto (-43), 3) := by decide +kernel
theorem dX7_tunnelsWith_50 : decode cX7_tunnelsWith 50 = .ok (.iload_n 2, 1) := by decide +kernel
theorem dX7_tunnelsWith_51 : decode cX7_tunnelsWith 51 = .ok (.ireturn, 1) := by decide +kernel
theorem lg_wsX7_molesAt_0 : GoodIn wsX7_molesAt ([.fieldLink RX7 7 "MolesLawnModel" "s" "[I", .methodLink RX7 64 yX7_of, .static yX7_of, .initialized RX7, .code yX7_of cX7_of 2 (some .int)] : List Cond) := goodIn_sub (fun _ h => (List.mem_cons_of_mem _ (List.mem_append_left _ h))) (by decide +kernel)
theorem ls_wsX7_molesAt_0 : GoodIn wsX7_molesAt wsX70 := goodIn_sub (fun _ h => (List.mem_cons_of_mem _ (List.mem_append_right _ h))) (by decide +kernel)
set_option maxRecDepth 20000 in
theorem ggX7_molesAt_X7_of : GoodIn wsX7_molesAt wsX7_of := (gi_cons (lg_wsX7_molesAt_0 _ (List.mem_of_getElem? (i := 4) rfl)) gi_nil)
set_option maxRecDepth 20000 in
theorem gX7_molesAt_X7_of : GoodIn wsX7_molesAt (va_wsS RX7 64 yX7_of wsX7_of) := goodIn_app (gi_cons (lg_wsX7_molesAt_0 _ (List.mem_of_getElem? (i := 1) rfl)) (gi_cons (lg_wsX7_molesAt_0 _ (List.mem_of_getElem? (i := 2) rfl)) (gi_cons (lg_wsX7_molesAt_0 _ (List.mem_of_getElem? (i := 3) rfl)) gi_nil))) ggX7_molesAt_X7_of
theorem dX7_molesAt_0 : decode cX7_molesAt 0 = .ok (.iconst 0, 1) := by decide +kernel
theorem dX7_molesAt_1 : decode cX7_molesAt 1 = .ok (.istore_n 2, 1) := by decide +kernel
theorem dX7_molesAt_2 : decode cX7_molesAt 2 = .ok (.iconst 0, 1) := by decide +kernel
theorem dX7_molesAt_3 : decode cX7_molesAt 3 = .ok (.istore_n 3, 1) := by decide +kernel
theorem dX7_molesAt_4 : decode cX7_molesAt 4 = .ok (.iload_n 3, 1) := by decide +kernel
theorem dX7_molesAt_5 : decode cX7_molesAt 5 = .ok (.aload_n 0, 1) := by decide +kernel
theorem dX7_molesAt_6 : decode cX7_molesAt 6 = .ok (.getfield 7, 3) := by decide +kernel
theorem dX7_molesAt_9 : decode cX7_molesAt 9 = .ok (.iconst 1, 1) := by decide +kernel
theorem dX7_molesAt_10 : decode cX7_molesAt 10 = .ok (.iaload, 1) := by decide +kernel
theorem dX7_molesAt_11 : decode cX7_molesAt 11 = .ok (.if_icmp .ge 31, 3) := by decide +kernel
theorem dX7_molesAt_14 : decode cX7_molesAt 14 = .ok (.iload_n 2, 1) := by decide +kernel
theorem dX7_molesAt_15 : decode cX7_molesAt 15 = .ok (.aload_n 0, 1) := by decide +kernel
theorem dX7_molesAt_16 : decode cX7_molesAt 16 = .ok (.getfield 7, 3) := by decide +kernel
theorem dX7_molesAt_19 : decode cX7_molesAt 19 = .ok (.iload_n 3, 1) := by decide +kernel
theorem dX7_molesAt_20 : decode cX7_molesAt 20 = .ok (.iconst 0, 1) := by decide +kernel
theorem dX7_molesAt_21 : decode cX7_molesAt 21 = .ok (.invokestatic 64, 3) := by decide +kernel
theorem dX7_molesAt_24 : decode cX7_molesAt 24 = .ok (.iaload, 1) := by decide +kernel
theorem dX7_molesAt_25 : decode cX7_molesAt 25 = .ok (.iload_n 1, 1) := by decide +kernel
theorem dX7_molesAt_26 : decode cX7_molesAt 26 = .ok (.if_icmp .ne 7, 3) := by decide +kernel
theorem dX7_molesAt_29 : decode cX7_molesAt 29 = .ok (.iconst 1, 1) := by decide +kernel
theorem dX7_molesAt_30 : decode cX7_molesAt 30 = .ok (.goto 4, 3) := by decide +kernel
theorem dX7_molesAt_33 : decode cX7_molesAt 33 = .ok (.iconst 0, 1) := by decide +kernel
theorem dX7_molesAt_34 : decode cX7_molesAt 34 = .ok (.iadd, 1) := by decide +kernel
theorem dX7_molesAt_35 : decode cX7_molesAt 35 = .ok (.istore_n 2, 1) := by decide +kernel
theorem dX7_molesAt_36 : decode cX7_molesAt 36 = .ok (.iinc 3 1, 3) := by decide +kernel
theorem dX7_molesAt_39 : decode cX7_molesAt 39 = .ok (.goto (-35), 3) := by decide +kernel
theorem dX7_molesAt_42 : decode cX7_molesAt 42 = .ok (.iload_n 2, 1) := by decide +kernel
theorem dX7_molesAt_43 : decode cX7_molesAt 43 = .ok (.ireturn, 1) := by decide +kernel
theorem lg_wsX7_toldOfTuft_0 : GoodIn wsX7_toldOfTuft wsX7_toldOfTuft_r1 := goodIn_sub (fun _ h => (List.mem_cons_of_mem _ (List.mem_append_left _ (List.mem_append_left _ h)))) (by decide +kernel)
theorem lg_wsX7_toldOfTuft_1 : GoodIn wsX7_toldOfTuft wsX7_toldOfTuft_r2 := goodIn_sub (fun _ h => (List.mem_cons_of_mem _ (List.mem_append_left _ (List.mem_append_right _ (List.mem_append_left _ h))))) (by decide +kernel)
theorem lg_wsX7_toldOfTuft_2 : GoodIn wsX7_toldOfTuft wsX7_toldOfTuft_r3 := goodIn_sub (fun _ h => (List.mem_cons_of_mem _ (List.mem_append_left _ (List.mem_append_right _ (List.mem_append_right _ h))))) (by decide +kernel)
theorem ls_wsX7_toldOfTuft_0 : GoodIn wsX7_toldOfTuft wsX70 := goodIn_sub (fun _ h => (List.mem_cons_of_mem _ (List.mem_append_right _ h))) (by decide +kernel)
set_option maxRecDepth 20000 in
theorem ggX7_toldOfTuft_X7_layHollow : GoodIn wsX7_toldOfTuft wsX7_layHollow := (gi_cons (lg_wsX7_toldOfTuft_0 _ (List.mem_of_getElem? (i := 7) rfl)) (goodIn_app (gi_cons (lg_wsX7_toldOfTuft_0 _ (List.mem_of_getElem? (i := 1) rfl)) (gi_cons (lg_wsX7_toldOfTuft_0 _ (List.mem_of_getElem? (i := 0) rfl)) (gi_cons (lg_wsX7_toldOfTuft_0 _ (List.mem_of_getElem? (i := 8) rfl)) (gi_cons (lg_wsX7_toldOfTuft_0 _ (List.mem_of_getElem? (i := 9) rfl)) (gi_cons (lg_wsX7_toldOfTuft_0 _ (List.mem_of_getElem? (i := 10) rfl)) (gi_cons (lg_wsX7_toldOfTuft_0 _ (List.mem_of_getElem? (i := 6) rfl)) (gi_cons (lg_wsX7_toldOfTuft_0 _ (List.mem_of_getElem? (i := 11) rfl)) (gi_cons (lg_wsX7_toldOfTuft_0 _ (List.mem_of_getElem? (i := 12) rfl)) (gi_cons (lg_wsX7_toldOfTuft_0 _ (List.mem_of_getElem? (i := 13) rfl)) (gi_cons (lg_wsX7_toldOfTuft_0 _ (List.mem_of_getElem? (i := 14) rfl)) gi_nil)))))))))) ls_wsX7_toldOfTuft_0))
set_option maxRecDepth 20000 in
theorem gX7_toldOfTuft_X7_layHollow : GoodIn wsX7_toldOfTuft (wsV RX7 197 RX7 yX7_layHollow wsX7_layHollow) := goodIn_app (gi_cons (lg_wsX7_toldOfTuft_0 _ (List.mem_of_getElem? (i := 3) rfl)) (gi_cons (lg_wsX7_toldOfTuft_0 _ (List.mem_of_getElem? (i := 4) rfl)) (gi_cons (lg_wsX7_toldOfTuft_0 _ (List.mem_of_getElem? (i := 5) rfl)) (gi_cons (lg_wsX7_toldOfTuft_0 _ (List.mem_of_getElem? (i := 6) rfl)) gi_nil)))) ggX7_toldOfTuft_X7_layHollow
set_option maxRecDepth 20000 in
theorem ggX7_toldOfTuft_X7_numberOf : GoodIn wsX7_toldOfTuft wsX7_numberOf := (gi_cons (lg_wsX7_toldOfTuft_0 _ (List.mem_of_getElem? (i := 18) rfl)) (goodIn_app (gi_cons (lg_wsX7_toldOfTuft_0 _ (List.mem_of_getElem? (i := 1) rfl)) (gi_cons (lg_wsX7_toldOfTuft_0 _ (List.mem_of_getElem? (i := 19) rfl)) (gi_cons (lg_wsX7_toldOfTuft_0 _ (List.mem_of_getElem? (i := 20) rfl)) (gi_cons (lg_wsX7_toldOfTuft_0 _ (List.mem_of_getElem? (i := 6) rfl)) (gi_cons (lg_wsX7_toldOfTuft_0 _ (List.mem_of_getElem? (i := 21) rfl)) (gi_cons (lg_wsX7_toldOfTuft_0 _ (List.mem_of_getElem? (i := 22) rfl)) (gi_cons (lg_wsX7_toldOfTuft_0 _ (List.mem_of_getElem? (i := 23) rfl)) (gi_cons (lg_wsX7_toldOfTuft_1 _ (List.mem_of_getElem? (i := 0) rfl)) gi_nil)))))))) ls_wsX7_toldOfTuft_0))
set_option maxRecDepth 20000 in
theorem gX7_toldOfTuft_X7_numberOf : GoodIn wsX7_toldOfTuft (wsV RX7 203 RX7 yX7_numberOf wsX7_numberOf) := goodIn_app (gi_cons (lg_wsX7_toldOfTuft_0 _ (List.mem_of_getElem? (i := 15) rfl)) (gi_cons (lg_wsX7_toldOfTuft_0 _ (List.mem_of_getElem? (i := 16) rfl)) (gi_cons (lg_wsX7_toldOfTuft_0 _ (List.mem_of_getElem? (i := 17) rfl)) (gi_cons (lg_wsX7_toldOfTuft_0 _ (List.mem_of_getElem? (i := 6) rfl)) gi_nil)))) ggX7_toldOfTuft_X7_numberOf
set_option maxRecDepth 20000 in
theorem ggX7_toldOfTuft_X7_laySure : GoodIn wsX7_toldOfTuft wsX7_laySure := (gi_cons (lg_wsX7_toldOfTuft_1 _ (List.mem_of_getElem? (i := 4) rfl)) (goodIn_app (goodIn_app (gi_cons (lg_wsX7_toldOfTuft_0 _ (List.mem_of_getElem? (i := 2) rfl)) (gi_cons (lg_wsX7_toldOfTuft_0 _ (List.mem_of_getElem? (i := 0) rfl)) (gi_cons (lg_wsX7_toldOfTuft_0 _ (List.mem_of_getElem? (i := 1) rfl)) (gi_cons (lg_wsX7_toldOfTuft_0 _ (List.mem_of_getElem? (i := 3) rfl)) (gi_cons (lg_wsX7_toldOfTuft_0 _ (List.mem_of_getElem? (i := 4) rfl)) (gi_cons (lg_wsX7_toldOfTuft_0 _ (List.mem_of_getElem? (i := 5) rfl)) (gi_cons (lg_wsX7_toldOfTuft_0 _ (List.mem_of_getElem? (i := 6) rfl)) (gi_cons (lg_wsX7_toldOfTuft_0 _ (List.mem_of_getElem? (i := 7) rfl)) (gi_cons (lg_wsX7_toldOfTuft_0 _ (List.mem_of_getElem? (i := 8) rfl)) (gi_cons (lg_wsX7_toldOfTuft_0 _ (List.mem_of_getElem? (i := 9) rfl)) (gi_cons (lg_wsX7_toldOfTuft_0 _ (List.mem_of_getElem? (i := 10) rfl)) (gi_cons (lg_wsX7_toldOfTuft_0 _ (List.mem_of_getElem? (i := 11) rfl)) (gi_cons (lg_wsX7_toldOfTuft_0 _ (List.mem_of_getElem? (i := 12) rfl)) (gi_cons (lg_wsX7_toldOfTuft_0 _ (List.mem_of_getElem? (i := 13) rfl)) (gi_cons (lg_wsX7_toldOfTuft_0 _ (List.mem_of_getElem? (i := 14) rfl)) (gi_cons (lg_wsX7_toldOfTuft_1 _ (List.mem_of_getElem? (i := 5) rfl)) (gi_cons (lg_wsX7_toldOfTuft_1 _ (List.mem_of_getElem? (i := 6) rfl)) (gi_cons (lg_wsX7_toldOfTuft_1 _ (List.mem_of_getElem? (i := 7) rfl)) (gi_cons (lg_wsX7_toldOfTuft_1 _ (List.mem_of_getElem? (i := 8) rfl)) (gi_cons (lg_wsX7_toldOfTuft_0 _ (List.mem_of_getElem? (i := 15) rfl)) (gi_cons (lg_wsX7_toldOfTuft_0 _ (List.mem_of_getElem? (i := 16) rfl)) (gi_cons (lg_wsX7_toldOfTuft_0 _ (List.mem_of_getElem? (i := 17) rfl)) (gi_cons (lg_wsX7_toldOfTuft_0 _ (List.mem_of_getElem? (i := 18) rfl)) (gi_cons (lg_wsX7_toldOfTuft_0 _ (List.mem_of_getElem? (i := 19) rfl)) gi_nil)))))))))))))))))))))))) (gi_cons (lg_wsX7_toldOfTuft_0 _ (List.mem_of_getElem? (i := 20) rfl)) (gi_cons (lg_wsX7_toldOfTuft_0 _ (List.mem_of_getElem? (i := 21) rfl)) (gi_cons (lg_wsX7_toldOfTuft_0 _ (List.mem_of_getElem? (i := 22) rfl)) (gi_cons (lg_wsX7_toldOfTuft_0 _ (List.mem_of_getElem? (i := 23) rfl)) (gi_cons (lg_wsX7_toldOfTuft_1 _ (List.mem_of_getElem? (i := 0) rfl)) (gi_cons (lg_wsX7_toldOfTuft_1 _ (List.mem_of_getElem? (i := 9) rfl)) (gi_cons (lg_wsX7_toldOfTuft_1 _ (List.mem_of_getElem? (i := 10) rfl)) (gi_cons (lg_wsX7_toldOfTuft_1 _ (List.mem_of_getElem? (i := 11) rfl)) (gi_cons (lg_wsX7_toldOfTuft_1 _ (List.mem_of_getElem? (i := 12) rfl)) gi_nil)))))))))) ls_wsX7_toldOfTuft_0))
set_option maxRecDepth 20000 in
theorem gX7_toldOfTuft_X7_laySure : GoodIn wsX7_toldOfTuft (wsV RX7 212 RX7 yX7_laySure wsX7_laySure) := goodIn_app (gi_cons (lg_wsX7_toldOfTuft_1 _ (List.mem_of_getElem? (i := 1) rfl)) (gi_cons (lg_wsX7_toldOfTuft_1 _ (List.mem_of_getElem? (i := 2) rfl)) (gi_cons (lg_wsX7_toldOfTuft_1 _ (List.mem_of_getElem? (i := 3) rfl)) (gi_cons (lg_wsX7_toldOfTuft_0 _ (List.mem_of_getElem? (i := 6) rfl)) gi_nil)))) ggX7_toldOfTuft_X7_laySure
set_option maxRecDepth 20000 in
theorem ggX7_toldOfTuft_X7_tunnelsWith : GoodIn wsX7_toldOfTuft wsX7_tunnelsWith := (gi_cons (lg_wsX7_toldOfTuft_1 _ (List.mem_of_getElem? (i := 16) rfl)) (goodIn_app (gi_cons (lg_wsX7_toldOfTuft_0 _ (List.mem_of_getElem? (i := 0) rfl)) (gi_cons (lg_wsX7_toldOfTuft_1 _ (List.mem_of_getElem? (i := 17) rfl)) (gi_cons (lg_wsX7_toldOfTuft_1 _ (List.mem_of_getElem? (i := 18) rfl)) (gi_cons (lg_wsX7_toldOfTuft_1 _ (List.mem_of_getElem? (i := 19) rfl)) (gi_cons (lg_wsX7_toldOfTuft_0 _ (List.mem_of_getElem? (i := 6) rfl)) (gi_cons (lg_wsX7_toldOfTuft_1 _ (List.mem_of_getElem? (i := 20) rfl)) (gi_cons (lg_wsX7_toldOfTuft_1 _ (List.mem_of_getElem? (i := 21) rfl)) (gi_cons (lg_wsX7_toldOfTuft_1 _ (List.mem_of_getElem? (i := 22) rfl)) (gi_cons (lg_wsX7_toldOfTuft_1 _ (List.mem_of_getElem? (i := 23) rfl)) (gi_cons (lg_wsX7_toldOfTuft_2 _ (List.mem_of_getElem? (i := 0) rfl)) (gi_cons (lg_wsX7_toldOfTuft_0 _ (List.mem_of_getElem? (i := 8) rfl)) (gi_cons (lg_wsX7_toldOfTuft_0 _ (List.mem_of_getElem? (i := 9) rfl)) (gi_cons (lg_wsX7_toldOfTuft_0 _ (List.mem_of_getElem? (i := 10) rfl)) (gi_cons (lg_wsX7_toldOfTuft_0 _ (List.mem_of_getElem? (i := 11) rfl)) gi_nil)))))))))))))) ls_wsX7_toldOfTuft_0))
set_option maxRecDepth 20000 in
theorem gX7_toldOfTuft_X7_tunnelsWith : GoodIn wsX7_toldOfTuft (wsV RX7 215 RX7 yX7_tunnelsWith wsX7_tunnelsWith) := goodIn_app (gi_cons (lg_wsX7_toldOfTuft_1 _ (List.mem_of_getElem? (i := 13) rfl)) (gi_cons (lg_wsX7_toldOfTuft_1 _ (List.mem_of_getElem? (i := 14) rfl)) (gi_cons (lg_wsX7_toldOfTuft_1 _ (List.mem_of_getElem? (i := 15) rfl)) (gi_cons (lg_wsX7_toldOfTuft_0 _ (List.mem_of_getElem? (i := 6) rfl)) gi_nil)))) ggX7_toldOfTuft_X7_tunnelsWith
set_option maxRecDepth 20000 in
theorem ggX7_toldOfTuft_X7_molesAt : GoodIn wsX7_toldOfTuft wsX7_molesAt := (gi_cons (lg_wsX7_toldOfTuft_2 _ (List.mem_of_getElem? (i := 4) rfl)) (goodIn_app (gi_cons (lg_wsX7_toldOfTuft_0 _ (List.mem_of_getElem? (i := 0) rfl)) (gi_cons (lg_wsX7_toldOfTuft_0 _ (List.mem_of_getElem? (i := 12) rfl)) (gi_cons (lg_wsX7_toldOfTuft_0 _ (List.mem_of_getElem? (i := 13) rfl)) (gi_cons (lg_wsX7_toldOfTuft_0 _ (List.mem_of_getElem? (i := 6) rfl)) (gi_cons (lg_wsX7_toldOfTuft_0 _ (List.mem_of_getElem? (i := 14) rfl)) gi_nil))))) ls_wsX7_toldOfTuft_0))
set_option maxRecDepth 20000 in
theorem gX7_toldOfTuft_X7_molesAt : GoodIn wsX7_toldOfTuft (wsV RX7 218 RX7 yX7_molesAt wsX7_molesAt) := goodIn_app (gi_cons (lg_wsX7_toldOfTuft_2 _ (List.mem_of_getElem? (i := 1) rfl)) (gi_cons (lg_wsX7_toldOfTuft_2 _ (List.mem_of_getElem? (i := 2) rfl)) (gi_cons (lg_wsX7_toldOfTuft_2 _ (List.mem_of_getElem? (i := 3) rfl)) (gi_cons (lg_wsX7_toldOfTuft_0 _ (List.mem_of_getElem? (i := 6) rfl)) gi_nil)))) ggX7_toldOfTuft_X7_molesAt
theorem dX7_toldOfTuft_0 : decode cX7_toldOfTuft 0 = .ok (.iload_n 2, 1) := by decide +kernel
theorem dX7_toldOfTuft_1 : decode cX7_toldOfTuft 1 = .ok (.tableswitch 135 0 7 #[47, 57, 67, 78, 97, 107, 118, 129], 47) := by decide +kernel
theorem dX7_toldOfTuft_48 : decode cX7_toldOfTuft 48 = .ok (.aload_n 0, 1) := by decide +kernel
theorem dX7_toldOfTuft_49 : decode cX7_toldOfTuft 49 = .ok (.getfield 7, 3) := by decide +kernel
theorem dX7_toldOfTuft_52 : decode cX7_toldOfTuft 52 = .ok (.bipush 8, 2) := by decide +kernel
theorem dX7_toldOfTuft_54 : decode cX7_toldOfTuft 54 = .ok (.iload_n 1, 1) := by decide +kernel
theorem dX7_toldOfTuft_55 : decode cX7_toldOfTuft 55 = .ok (.iadd, 1) := by decide +kernel
theorem dX7_toldOfTuft_56 : decode cX7_toldOfTuft 56 = .ok (.iaload, 1) := by decide +kernel
theorem dX7_toldOfTuft_57 : decode cX7_toldOfTuft 57 = .ok (.ireturn, 1) := by decide +kernel
theorem dX7_toldOfTuft_58 : decode cX7_toldOfTuft 58 = .ok (.aload_n 0, 1) := by decide +kernel
theorem dX7_toldOfTuft_59 : decode cX7_toldOfTuft 59 = .ok (.getfield 7, 3) := by decide +kernel
theorem dX7_toldOfTuft_62 : decode cX7_toldOfTuft 62 = .ok (.bipush 72, 2) := by decide +kernel
theorem dX7_toldOfTuft_64 : decode cX7_toldOfTuft 64 = .ok (.iload_n 1, 1) := by decide +kernel
theorem dX7_toldOfTuft_65 : decode cX7_toldOfTuft 65 = .ok (.iadd, 1) := by decide +kernel
theorem dX7_toldOfTuft_66 : decode cX7_toldOfTuft 66 = .ok (.iaload, 1) := by decide +kernel
theorem dX7_toldOfTuft_67 : decode cX7_toldOfTuft 67 = .ok (.ireturn, 1) := by decide +kernel
theorem dX7_toldOfTuft_68 : decode cX7_toldOfTuft 68 = .ok (.aload_n 0, 1) := by decide +kernel
theorem dX7_toldOfTuft_69 : decode cX7_toldOfTuft 69 = .ok (.getfield 7, 3) := by decide +kernel
theorem dX7_toldOfTuft_72 : decode cX7_toldOfTuft 72 = .ok (.sipush 136, 3) := by decide +kernel
theorem dX7_toldOfTuft_75 : decode cX7_toldOfTuft 75 = .ok (.iload_n 1, 1) := by decide +kernel
theorem dX7_toldOfTuft_76 : decode cX7_toldOfTuft 76 = .ok (.iadd, 1) := by decide +kernel
theorem dX7_toldOfTuft_77 : decode cX7_toldOfTuft 77 = .ok (.iaload, 1) := by decide +kernel
theorem dX7_toldOfTuft_78 : decode cX7_toldOfTuft 78 = .ok (.ireturn, 1) := by decide +kernel
theorem dX7_toldOfTuft_79 : decode cX7_toldOfTuft 79 = .ok (.aload_n 0, 1) := by decide +kernel
theorem dX7_toldOfTuft_80 : decode cX7_toldOfTuft 80 = .ok (.invokevirtual 197, 3) := by decide +kernel
theorem dX7_toldOfTuft_83 : decode cX7_toldOfTuft 83 = .ok (.aload_n 0, 1) := by decide +kernel
theorem dX7_toldOfTuft_84 : decode cX7_toldOfTuft 84 = .ok (.getfield 28, 3) := by decide +kernel
theorem dX7_toldOfTuft_87 : decode cX7_toldOfTuft 87 = .ok (.iload_n 1, 1) := by decide +kernel
theorem dX7_toldOfTuft_88 : decode cX7_toldOfTuft 88 = .ok (.baload, 1) := by decide +kernel
theorem dX7_toldOfTuft_89 : decode cX7_toldOfTuft 89 = .ok (.ifCond .eq 7, 3) := by decide +kernel
theorem dX7_toldOfTuft_92 : decode cX7_toldOfTuft 92 = .ok (.iconst 1, 1) := by decide +kernel
theorem dX7_toldOfTuft_93 : decode cX7_toldOfTuft 93 = .ok (.goto 4, 3) := by decide +kernel
theorem dX7_toldOfTuft_96 : decode cX7_toldOfTuft 96 = .ok (.iconst 0, 1) := by decide +kernel
theorem dX7_toldOfTuft_97 : decode cX7_toldOfTuft 97 = .ok (.ireturn, 1) := by decide +kernel
theorem dX7_toldOfTuft_98 : decode cX7_toldOfTuft 98 = .ok (.aload_n 0, 1) := by decide +kernel
theorem dX7_toldOfTuft_99 : decode cX7_toldOfTuft 99 = .ok (.invokevirtual 197, 3) := by decide +kernel
theorem dX7_toldOfTuft_102 : decode cX7_toldOfTuft 102 = .ok (.aload_n 0, 1) := by decide +kernel
theorem dX7_toldOfTuft_103 : decode cX7_toldOfTuft 103 = .ok (.iload_n 1, 1) := by decide +kernel
theorem dX7_toldOfTuft_104 : decode cX7_toldOfTuft 104 = .ok (.invokevirtual 203, 3) := by decide +kernel
theorem dX7_toldOfTuft_107 : decode cX7_toldOfTuft 107 = .ok (.ireturn, 1) := by decide +kernel
theorem dX7_toldOfTuft_108 : decode cX7_toldOfTuft 108 = .ok (.aload_n 0, 1) := by decide +kernel
theorem dX7_toldOfTuft_109 : decode cX7_toldOfTuft 109 = .ok (.getfield 7, 3) := by decide +kernel
theorem dX7_toldOfTuft_112 : decode cX7_toldOfTuft 112 = .ok (.sipush 200, 3) := by decide +kernel
theorem dX7_toldOfTuft_115 : decode cX7_toldOfTuft 115 = .ok (.iload_n 1, 1) := by decide +kernel
theorem dX7_toldOfTuft_116 : decode cX7_toldOfTuft 116 = .ok (.iadd, 1) := by decide +kernel
theorem dX7_toldOfTuft_117 : decode cX7_toldOfTuft 117 = .ok (.iaload, 1) := by decide +kernel
theorem dX7_toldOfTuft_118 : decode cX7_toldOfTuft 118 = .ok (.ireturn, 1) := by decide +kernel
theorem dX7_toldOfTuft_119 : decode cX7_toldOfTuft 119 = .ok (.aload_n 0, 1) := by decide +kernel
theorem dX7_toldOfTuft_120 : decode cX7_toldOfTuft 120 = .ok (.invokevirtual 212, 3) := by decide +kernel
theorem dX7_toldOfTuft_123 : decode cX7_toldOfTuft 123 = .ok (.aload_n 0, 1) := by decide +kernel
theorem dX7_toldOfTuft_124 : decode cX7_toldOfTuft 124 = .ok (.getfield 32, 3) := by decide +kernel
theorem dX7_toldOfTuft_127 : decode cX7_toldOfTuft 127 = .ok (.iload_n 1, 1) := by decide +kernel
theorem dX7_toldOfTuft_128 : decode cX7_toldOfTuft 128 = .ok (.iaload, 1) := by decide +kernel
theorem dX7_toldOfTuft_129 : decode cX7_toldOfTuft 129 = .ok (.ireturn, 1) := by decide +kernel
theorem dX7_toldOfTuft_130 : decode cX7_toldOfTuft 130 = .ok (.aload_n 0, 1) := by decide +kernel
theorem dX7_toldOfTuft_131 : decode cX7_toldOfTuft 131 = .ok (.iload_n 1, 1) := by decide +kernel
theorem dX7_toldOfTuft_132 : decode cX7_toldOfTuft 132 = .ok (.invokevirtual 215, 3) := by decide +kernel
theorem dX7_toldOfTuft_135 : decode cX7_toldOfTuft 135 = .ok (.ireturn, 1) := by decide +kernel
theorem dX7_toldOfTuft_136 : decode cX7_toldOfTuft 136 = .ok (.aload_n 0, 1) := by decide +kernel
theorem dX7_toldOfTuft_137 : decode cX7_toldOfTuft 137 = .ok (.iload_n 1, 1) := by decide +kernel
theorem dX7_toldOfTuft_138 : decode cX7_toldOfTuft 138 = .ok (.invokevirtual 218, 3) := by decide +kernel
theorem dX7_toldOfTuft_141 : decode cX7_toldOfTuft 141 = .ok (.ireturn, 1) := by decide +kernel
theorem lg_wsX7_tuft_0 : GoodIn wsX7_tuft wsX7_tuft_r1 := goodIn_sub (fun _ h => (List.mem_cons_of_mem _ (List.mem_append_left _ (List.mem_append_left _ h)))) (by decide +kernel)
theorem lg_wsX7_tuft_1 : GoodIn wsX7_tuft wsX7_tuft_r2 := goodIn_sub (fun _ h => (List.mem_cons_of_mem _ (List.mem_append_left _ (List.mem_append_right _ (List.mem_append_left _ h))))) (by decide +kernel)
theorem lg_wsX7_tuft_2 : GoodIn wsX7_tuft wsX7_tuft_r3 := goodIn_sub (fun _ h => (List.mem_cons_of_mem _ (List.mem_append_left _ (List.mem_append_right _ (List.mem_append_right _ h))))) (by decide +kernel)
theorem ls_wsX7_tuft_0 : GoodIn wsX7_tuft wsX70 := goodIn_sub (fun _ h => (List.mem_cons_of_mem _ (List.mem_append_right _ h))) (by decide +kernel)
set_option maxRecDepth 20000 in
theorem ggX7_tuft_X7_isTuft : GoodIn wsX7_tuft wsX7_isTuft := (gi_cons (lg_wsX7_tuft_0 _ (List.mem_of_getElem? (i := 3) rfl)) (gi_cons (lg_wsX7_tuft_0 _ (List.mem_of_getElem? (i := 4) rfl)) (gi_cons (lg_wsX7_tuft_0 _ (List.mem_of_getElem? (i := 5) rfl)) (gi_cons (lg_wsX7_tuft_0 _ (List.mem_of_getElem? (i := 2) rfl)) (gi_cons (lg_wsX7_tuft_0 _ (List.mem_of_getElem? (i := 6) rfl)) gi_nil)))))
set_option maxRecDepth 20000 in
theorem gX7_tuft_X7_isTuft : GoodIn wsX7_tuft (va_wsS RX7 120 yX7_isTuft wsX7_isTuft) := goodIn_app (gi_cons (lg_wsX7_tuft_0 _ (List.mem_of_getElem? (i := 0) rfl)) (gi_cons (lg_wsX7_tuft_0 _ (List.mem_of_getElem? (i := 1) rfl)) (gi_cons (lg_wsX7_tuft_0 _ (List.mem_of_getElem? (i := 2) rfl)) gi_nil))) ggX7_tuft_X7_isTuft
set_option maxRecDepth 20000 in
theorem ggX7_tuft_X7_in : GoodIn wsX7_tuft wsX7_in := (gi_cons (lg_wsX7_tuft_0 _ (List.mem_of_getElem? (i := 6) rfl)) gi_nil)
set_option maxRecDepth 20000 in
theorem gX7_tuft_X7_in : GoodIn wsX7_tuft (va_wsS RX7 42 yX7_in wsX7_in) := goodIn_app (gi_cons (lg_wsX7_tuft_0 _ (List.mem_of_getElem? (i := 4) rfl)) (gi_cons (lg_wsX7_tuft_0 _ (List.mem_of_getElem? (i := 5) rfl)) (gi_cons (lg_wsX7_tuft_0 _ (List.mem_of_getElem? (i := 2) rfl)) gi_nil))) ggX7_tuft_X7_in
set_option maxRecDepth 20000 in
theorem ggX7_tuft_X7_holds : GoodIn wsX7_tuft wsX7_holds := (gi_cons (lg_wsX7_tuft_0 _ (List.mem_of_getElem? (i := 10) rfl)) (goodIn_app (gi_cons (lg_wsX7_tuft_0 _ (List.mem_of_getElem? (i := 11) rfl)) gi_nil) ls_wsX7_tuft_0))
set_option maxRecDepth 20000 in
theorem gX7_tuft_X7_holds : GoodIn wsX7_tuft (wsV RX7 123 RX7 yX7_holds wsX7_holds) := goodIn_app (gi_cons (lg_wsX7_tuft_0 _ (List.mem_of_getElem? (i := 7) rfl)) (gi_cons (lg_wsX7_tuft_0 _ (List.mem_of_getElem? (i := 8) rfl)) (gi_cons (lg_wsX7_tuft_0 _ (List.mem_of_getElem? (i := 9) rfl)) (gi_cons (lg_wsX7_tuft_0 _ (List.mem_of_getElem? (i := 2) rfl)) gi_nil)))) ggX7_tuft_X7_holds
set_option maxRecDepth 20000 in
theorem ggX7_tuft_X7_toldOfTuft : GoodIn wsX7_tuft wsX7_toldOfTuft := (gi_cons (lg_wsX7_tuft_0 _ (List.mem_of_getElem? (i := 15) rfl)) (goodIn_app (goodIn_app (gi_cons (lg_wsX7_tuft_0 _ (List.mem_of_getElem? (i := 16) rfl)) (gi_cons (lg_wsX7_tuft_0 _ (List.mem_of_getElem? (i := 17) rfl)) (gi_cons (lg_wsX7_tuft_0 _ (List.mem_of_getElem? (i := 18) rfl)) (gi_cons (lg_wsX7_tuft_0 _ (List.mem_of_getElem? (i := 19) rfl)) (gi_cons (lg_wsX7_tuft_0 _ (List.mem_of_getElem? (i := 20) rfl)) (gi_cons (lg_wsX7_tuft_0 _ (List.mem_of_getElem? (i := 21) rfl)) (gi_cons (lg_wsX7_tuft_0 _ (List.mem_of_getElem? (i := 2) rfl)) (gi_cons (lg_wsX7_tuft_0 _ (List.mem_of_getElem? (i := 22) rfl)) (gi_cons (lg_wsX7_tuft_0 _ (List.mem_of_getElem? (i := 23) rfl)) (gi_cons (lg_wsX7_tuft_1 _ (List.mem_of_getElem? (i := 0) rfl)) (gi_cons (lg_wsX7_tuft_1 _ (List.mem_of_getElem? (i := 1) rfl)) (gi_cons (lg_wsX7_tuft_1 _ (List.mem_of_getElem? (i := 2) rfl)) (gi_cons (lg_wsX7_tuft_1 _ (List.mem_of_getElem? (i := 3) rfl)) (gi_cons (lg_wsX7_tuft_1 _ (List.mem_of_getElem? (i := 4) rfl)) (gi_cons (lg_wsX7_tuft_1 _ (List.mem_of_getElem? (i := 5) rfl)) (gi_cons (lg_wsX7_tuft_1 _ (List.mem_of_getElem? (i := 6) rfl)) (gi_cons (lg_wsX7_tuft_1 _ (List.mem_of_getElem? (i := 7) rfl)) (gi_cons (lg_wsX7_tuft_1 _ (List.mem_of_getElem? (i := 8) rfl)) (gi_cons (lg_wsX7_tuft_1 _ (List.mem_of_getElem? (i := 9) rfl)) (gi_cons (lg_wsX7_tuft_1 _ (List.mem_of_getElem? (i := 10) rfl)) (gi_cons (lg_wsX7_tuft_1 _ (List.mem_of_getElem? (i := 11) rfl)) (gi_cons (lg_wsX7_tuft_1 _ (List.mem_of_getElem? (i := 12) rfl)) (gi_cons (lg_wsX7_tuft_0 _ (List.mem_of_getElem? (i := 4) rfl)) (gi_cons (lg_wsX7_tuft_0 _ (List.mem_of_getElem? (i := 5) rfl)) gi_nil)))))))))))))))))))))))) (goodIn_app (gi_cons (lg_wsX7_tuft_0 _ (List.mem_of_getElem? (i := 6) rfl)) (gi_cons (lg_wsX7_tuft_1 _ (List.mem_of_getElem? (i := 13) rfl)) (gi_cons (lg_wsX7_tuft_1 _ (List.mem_of_getElem? (i := 14) rfl)) (gi_cons (lg_wsX7_tuft_1 _ (List.mem_of_getElem? (i := 15) rfl)) (gi_cons (lg_wsX7_tuft_1 _ (List.mem_of_getElem? (i := 16) rfl)) (gi_cons (lg_wsX7_tuft_1 _ (List.mem_of_getElem? (i := 17) rfl)) (gi_cons (lg_wsX7_tuft_1 _ (List.mem_of_getElem? (i := 18) rfl)) (gi_cons (lg_wsX7_tuft_1 _ (List.mem_of_getElem? (i := 19) rfl)) (gi_cons (lg_wsX7_tuft_1 _ (List.mem_of_getElem? (i := 20) rfl)) (gi_cons (lg_wsX7_tuft_1 _ (List.mem_of_getElem? (i := 21) rfl)) (gi_cons (lg_wsX7_tuft_1 _ (List.mem_of_getElem? (i := 22) rfl)) (gi_cons (lg_wsX7_tuft_1 _ (List.mem_of_getElem? (i := 23) rfl)) (gi_cons (lg_wsX7_tuft_2 _ (List.mem_of_getElem? (i := 0) rfl)) (gi_cons (lg_wsX7_tuft_2 _ (List.mem_of_getElem? (i := 1) rfl)) (gi_cons (lg_wsX7_tuft_2 _ (List.mem_of_getElem? (i := 2) rfl)) (gi_cons (lg_wsX7_tuft_2 _ (List.mem_of_getElem? (i := 3) rfl)) (gi_cons (lg_wsX7_tuft_2 _ (List.mem_of_getElem? (i := 4) rfl)) (gi_cons (lg_wsX7_tuft_2 _ (List.mem_of_getElem? (i := 5) rfl)) (gi_cons (lg_wsX7_tuft_2 _ (List.mem_of_getElem? (i := 6) rfl)) (gi_cons (lg_wsX7_tuft_2 _ (List.mem_of_getElem? (i := 7) rfl)) (gi_cons (lg_wsX7_tuft_2 _ (List.mem_of_getElem? (i := 8) rfl)) (gi_cons (lg_wsX7_tuft_2 _ (List.mem_of_getElem? (i := 9) rfl)) (gi_cons (lg_wsX7_tuft_2 _ (List.mem_of_getElem? (i := 10) rfl)) (gi_cons (lg_wsX7_tuft_2 _ (List.mem_of_getElem? (i := 11) rfl)) gi_nil)))))))))))))))))))))))) (gi_cons (lg_wsX7_tuft_2 _ (List.mem_of_getElem? (i := 12) rfl)) (gi_cons (lg_wsX7_tuft_2 _ (List.mem_of_getElem? (i := 13) rfl)) (gi_cons (lg_wsX7_tuft_2 _ (List.mem_of_getElem? (i := 14) rfl)) (gi_cons (lg_wsX7_tuft_2 _ (List.mem_of_getElem? (i := 15) rfl)) (gi_cons (lg_wsX7_tuft_2 _ (List.mem_of_getElem? (i := 16) rfl)) gi_nil))))))) ls_wsX7_tuft_0))
set_option maxRecDepth 20000 in
theorem gX7_tuft_X7_toldOfTuft : GoodIn wsX7_tuft (wsV RX7 221 RX7 yX7_toldOfTuft wsX7_toldOfTuft) := goodIn_app (gi_cons (lg_wsX7_tuft_0 _ (List.mem_of_getElem? (i := 12) rfl)) (gi_cons (lg_wsX7_tuft_0 _ (List.mem_of_getElem? (i := 13) rfl)) (gi_cons (lg_wsX7_tuft_0 _ (List.mem_of_getElem? (i := 14) rfl)) (gi_cons (lg_wsX7_tuft_0 _ (List.mem_of_getElem? (i := 2) rfl)) gi_nil)))) ggX7_tuft_X7_toldOfTuft
theorem dX7_tuft_0 : decode cX7_tuft 0 = .ok (.aload_n 0, 1) := by decide +kernel
theorem dX7_tuft_1 : decode cX7_tuft 1 = .ok (.iload_n 1, 1) := by decide +kernel
theorem dX7_tuft_2 : decode cX7_tuft 2 = .ok (.invokestatic 120, 3) := by decide +kernel
theorem dX7_tuft_5 : decode cX7_tuft 5 = .ok (.ifCond .ne 7, 3) := by decide +kernel
theorem dX7_tuft_8 : decode cX7_tuft 8 = .ok (.iconst 1, 1) := by decide +kernel
theorem dX7_tuft_9 : decode cX7_tuft 9 = .ok (.goto 18, 3) := by decide +kernel
theorem dX7_tuft_12 : decode cX7_tuft 12 = .ok (.iload_n 2, 1) := by decide +kernel
theorem dX7_tuft_13 : decode cX7_tuft 13 = .ok (.iconst 0, 1) := by decide +kernel
theorem dX7_tuft_14 : decode cX7_tuft 14 = .ok (.bipush 8, 2) := by decide +kernel
theorem dX7_tuft_16 : decode cX7_tuft 16 = .ok (.invokestatic 42, 3) := by decide +kernel
theorem dX7_tuft_19 : decode cX7_tuft 19 = .ok (.ifCond .ne 7, 3) := by decide +kernel
theorem dX7_tuft_22 : decode cX7_tuft 22 = .ok (.iconst 2, 1) := by decide +kernel
theorem dX7_tuft_23 : decode cX7_tuft 23 = .ok (.goto 4, 3) := by decide +kernel
theorem dX7_tuft_26 : decode cX7_tuft 26 = .ok (.iconst 0, 1) := by decide +kernel
theorem dX7_tuft_27 : decode cX7_tuft 27 = .ok (.invokevirtual 123, 3) := by decide +kernel
theorem dX7_tuft_30 : decode cX7_tuft 30 = .ok (.ifCond .eq 12, 3) := by decide +kernel
theorem dX7_tuft_33 : decode cX7_tuft 33 = .ok (.aload_n 0, 1) := by decide +kernel
theorem dX7_tuft_34 : decode cX7_tuft 34 = .ok (.iload_n 1, 1) := by decide +kernel
theorem dX7_tuft_35 : decode cX7_tuft 35 = .ok (.iload_n 2, 1) := by decide +kernel
theorem dX7_tuft_36 : decode cX7_tuft 36 = .ok (.invokevirtual 221, 3) := by decide +kernel
theorem dX7_tuft_39 : decode cX7_tuft 39 = .ok (.goto 4, 3) := by decide +kernel
theorem dX7_tuft_42 : decode cX7_tuft 42 = .ok (.iconst 0, 1) := by decide +kernel
theorem dX7_tuft_43 : decode cX7_tuft 43 = .ok (.ireturn, 1) := by decide +kernel
theorem lg_wsX7_toldOfMole_0 : GoodIn wsX7_toldOfMole ([.fieldLink RX7 7 "MolesLawnModel" "s" "[I", .methodLink RX7 64 yX7_of, .static yX7_of, .initialized RX7, .code yX7_of cX7_of 2 (some .int)] : List Cond) := goodIn_sub (fun _ h => (List.mem_cons_of_mem _ (List.mem_append_left _ h))) (by decide +kernel)
theorem ls_wsX7_toldOfMole_0 : GoodIn wsX7_toldOfMole wsX70 := goodIn_sub (fun _ h => (List.mem_cons_of_mem _ (List.mem_append_right _ h))) (by decide +kernel)
set_option maxRecDepth 20000 in
theorem ggX7_toldOfMole_X7_of : GoodIn wsX7_toldOfMole wsX7_of := (gi_cons (lg_wsX7_toldOfMole_0 _ (List.mem_of_getElem? (i := 4) rfl)) gi_nil)
set_option maxRecDepth 20000 in
theorem gX7_toldOfMole_X7_of : GoodIn wsX7_toldOfMole (va_wsS RX7 64 yX7_of wsX7_of) := goodIn_app (gi_cons (lg_wsX7_toldOfMole_0 _ (List.mem_of_getElem? (i := 1) rfl)) (gi_cons (lg_wsX7_toldOfMole_0 _ (List.mem_of_getElem? (i := 2) rfl)) (gi_cons (lg_wsX7_toldOfMole_0 _ (List.mem_of_getElem? (i := 3) rfl)) gi_nil))) ggX7_toldOfMole_X7_of
theorem dX7_toldOfMole_0 : decode cX7_toldOfMole 0 = .ok (.iload_n 2, 1) := by decide +kernel
theorem dX7_toldOfMole_1 : decode cX7_toldOfMole 1 = .ok (.tableswitch 102 0 5 #[39, 39, 39, 50, 78, 90], 39) := by decide +kernel
theorem dX7_toldOfMole_40 : decode cX7_toldOfMole 40 = .ok (.aload_n 0, 1) := by decide +kernel
theorem dX7_toldOfMole_41 : decode cX7_toldOfMole 41 = .ok (.getfield 7, 3) := by decide +kernel
theorem dX7_toldOfMole_44 : decode cX7_toldOfMole 44 = .ok (.iload_n 1, 1) := by decide +kernel
theorem dX7_toldOfMole_45 : decode cX7_toldOfMole 45 = .ok (.iload_n 2, 1) := by decide +kernel
theorem dX7_toldOfMole_46 : decode cX7_toldOfMole 46 = .ok (.invokestatic 64, 3) := by decide +kernel
theorem dX7_toldOfMole_49 : decode cX7_toldOfMole 49 = .ok (.iaload, 1) := by decide +kernel
theorem dX7_toldOfMole_50 : decode cX7_toldOfMole 50 = .ok (.ireturn, 1) := by decide +kernel
theorem dX7_toldOfMole_51 : decode cX7_toldOfMole 51 = .ok (.aload_n 0, 1) := by decide +kernel
theorem dX7_toldOfMole_52 : decode cX7_toldOfMole 52 = .ok (.getfield 7, 3) := by decide +kernel
theorem dX7_toldOfMole_55 : decode cX7_toldOfMole 55 = .ok (.iload_n 1, 1) := by decide +kernel
theorem dX7_toldOfMole_56 : decode cX7_toldOfMole 56 = .ok (.iconst 2, 1) := by decide +kernel
theorem dX7_toldOfMole_57 : decode cX7_toldOfMole 57 = .ok (.invokestatic 64, 3) := by decide +kernel
theorem dX7_toldOfMole_60 : decode cX7_toldOfMole 60 = .ok (.iaload, 1) := by decide +kernel
theorem dX7_toldOfMole_61 : decode cX7_toldOfMole 61 = .ok (.ifCond .ne 7, 3) := by decide +kernel
theorem dX7_toldOfMole_64 : decode cX7_toldOfMole 64 = .ok (.iconst (-1), 1) := by decide +kernel
theorem dX7_toldOfMole_65 : decode cX7_toldOfMole 65 = .ok (.goto 13, 3) := by decide +kernel
theorem dX7_toldOfMole_68 : decode cX7_toldOfMole 68 = .ok (.aload_n 0, 1) := by decide +kernel
theorem dX7_toldOfMole_69 : decode cX7_toldOfMole 69 = .ok (.getfield 7, 3) := by decide +kernel
theorem dX7_toldOfMole_72 : decode cX7_toldOfMole 72 = .ok (.iload_n 1, 1) := by decide +kernel
theorem dX7_toldOfMole_73 : decode cX7_toldOfMole 73 = .ok (.iconst 3, 1) := by decide +kernel
theorem dX7_toldOfMole_74 : decode cX7_toldOfMole 74 = .ok (.invokestatic 64, 3) := by decide +kernel
theorem dX7_toldOfMole_77 : decode cX7_toldOfMole 77 = .ok (.iaload, 1) := by decide +kernel
theorem dX7_toldOfMole_78 : decode cX7_toldOfMole 78 = .ok (.ireturn, 1) := by decide +kernel
theorem dX7_toldOfMole_79 : decode cX7_toldOfMole 79 = .ok (.aload_n 0, 1) := by decide +kernel
theorem dX7_toldOfMole_80 : decode cX7_toldOfMole 80 = .ok (.getfield 7, 3) := by decide +kernel
theorem dX7_toldOfMole_83 : decode cX7_toldOfMole 83 = .ok (.iload_n 1, 1) := by decide +kernel
theorem dX7_toldOfMole_84 : decode cX7_toldOfMole 84 = .ok (.bipush 24, 2) := by decide +kernel
theorem dX7_toldOfMole_86 : decode cX7_toldOfMole 86 = .ok (.invokestatic 64, 3) := by decide +kernel
theorem dX7_toldOfMole_89 : decode cX7_toldOfMole 89 = .ok (.iaload, 1) := by decide +kernel
theorem dX7_toldOfMole_90 : decode cX7_toldOfMole 90 = .ok (.ireturn, 1) := by decide +kernel
theorem dX7_toldOfMole_91 : decode cX7_toldOfMole 91 = .ok (.aload_n 0, 1) := by decide +kernel
theorem dX7_toldOfMole_92 : decode cX7_toldOfMole 92 = .ok (.getfield 7, 3) := by decide +kernel
theorem dX7_toldOfMole_95 : decode cX7_toldOfMole 95 = .ok (.iload_n 1, 1) := by decide +kernel
theorem dX7_toldOfMole_96 : decode cX7_toldOfMole 96 = .ok (.bipush 23, 2) := by decide +kernel
theorem dX7_toldOfMole_98 : decode cX7_toldOfMole 98 = .ok (.invokestatic 64, 3) := by decide +kernel
theorem dX7_toldOfMole_101 : decode cX7_toldOfMole 101 = .ok (.iaload, 1) := by decide +kernel
theorem dX7_toldOfMole_102 : decode cX7_toldOfMole 102 = .ok (.ireturn, 1) := by decide +kernel
theorem dX7_toldOfMole_103 : decode cX7_toldOfMole 103 = .ok (.aload_n 0, 1) := by decide +kernel
theorem dX7_toldOfMole_104 : decode cX7_toldOfMole 104 = .ok (.getfield 7, 3) := by decide +kernel
theorem dX7_toldOfMole_107 : decode cX7_toldOfMole 107 = .ok (.iload_n 1, 1) := by decide +kernel
theorem dX7_toldOfMole_108 : decode cX7_toldOfMole 108 = .ok (.bipush 45, 2) := by decide +kernel
theorem dX7_toldOfMole_110 : decode cX7_toldOfMole 110 = .ok (.invokestatic 64, 3) := by decide +kernel
theorem dX7_toldOfMole_113 : decode cX7_toldOfMole 113 = .ok (.iaload, 1) := by decide +kernel
theorem dX7_toldOfMole_114 : decode cX7_toldOfMole 114 = .ok (.ireturn, 1) := by decide +kernel
theorem lg_wsX7_moleOf_0 : GoodIn wsX7_moleOf ([.methodLink RX7 126 yX7_isMole, .instanceMethod yX7_isMole, .selects RX7 yX7_isMole yX7_isMole, .initialized RX7, .code yX7_isMole cX7_isMole 2 (some .boolean), .fieldLink RX7 7 "MolesLawnModel" "s" "[I", .methodLink RX7 42 yX7_in, .static yX7_in, .code yX7_in cX7_in 3 (some .boolean), .methodLink RX7 123 yX7_holds, .instanceMethod yX7_holds, .selects RX7 yX7_holds yX7_holds, .code yX7_holds cX7_holds 2 (some .boolean), .fieldLink RX7 38 "MolesLawnModel" "thrown" "I", .methodLink RX7 224 yX7_toldOfMole, .instanceMethod yX7_toldOfMole, .selects RX7 yX7_toldOfMole yX7_toldOfMole, .code yX7_toldOfMole cX7_toldOfMole 3 (some .int), .methodLink RX7 64 yX7_of, .static yX7_of, .code yX7_of cX7_of 2 (some .int)] : List Cond) := goodIn_sub (fun _ h => (List.mem_cons_of_mem _ (List.mem_append_left _ h))) (by decide +kernel)
theorem ls_wsX7_moleOf_0 : GoodIn wsX7_moleOf wsX70 := goodIn_sub (fun _ h => (List.mem_cons_of_mem _ (List.mem_append_right _ h))) (by decide +kernel)
set_option maxRecDepth 20000 in
theorem ggX7_moleOf_X7_isMole : GoodIn wsX7_moleOf wsX7_isMole := (gi_cons (lg_wsX7_moleOf_0 _ (List.mem_of_getElem? (i := 4) rfl)) (goodIn_app (gi_cons (lg_wsX7_moleOf_0 _ (List.mem_of_getElem? (i := 5) rfl)) (gi_cons (lg_wsX7_moleOf_0 _ (List.mem_of_getElem? (i := 6) rfl)) (gi_cons (lg_wsX7_moleOf_0 _ (List.mem_of_getElem? (i := 7) rfl)) (gi_cons (lg_wsX7_moleOf_0 _ (List.mem_of_getElem? (i := 3) rfl)) (gi_cons (lg_wsX7_moleOf_0 _ (List.mem_of_getElem? (i := 8) rfl)) gi_nil))))) ls_wsX7_moleOf_0))
set_option maxRecDepth 20000 in
theorem gX7_moleOf_X7_isMole : GoodIn wsX7_moleOf (wsV RX7 126 RX7 yX7_isMole wsX7_isMole) := goodIn_app (gi_cons (lg_wsX7_moleOf_0 _ (List.mem_of_getElem? (i := 0) rfl)) (gi_cons (lg_wsX7_moleOf_0 _ (List.mem_of_getElem? (i := 1) rfl)) (gi_cons (lg_wsX7_moleOf_0 _ (List.mem_of_getElem? (i := 2) rfl)) (gi_cons (lg_wsX7_moleOf_0 _ (List.mem_of_getElem? (i := 3) rfl)) gi_nil)))) ggX7_moleOf_X7_isMole
set_option maxRecDepth 20000 in
theorem ggX7_moleOf_X7_in : GoodIn wsX7_moleOf wsX7_in := (gi_cons (lg_wsX7_moleOf_0 _ (List.mem_of_getElem? (i := 8) rfl)) gi_nil)
set_option maxRecDepth 20000 in
theorem gX7_moleOf_X7_in : GoodIn wsX7_moleOf (va_wsS RX7 42 yX7_in wsX7_in) := goodIn_app (gi_cons (lg_wsX7_moleOf_0 _ (List.mem_of_getElem? (i := 6) rfl)) (gi_cons (lg_wsX7_moleOf_0 _ (List.mem_of_getElem? (i := 7) rfl)) (gi_cons (lg_wsX7_moleOf_0 _ (List.mem_of_getElem? (i := 3) rfl)) gi_nil))) ggX7_moleOf_X7_in
set_option maxRecDepth 20000 in
theorem ggX7_moleOf_X7_holds : GoodIn wsX7_moleOf wsX7_holds := (gi_cons (lg_wsX7_moleOf_0 _ (List.mem_of_getElem? (i := 12) rfl)) (goodIn_app (gi_cons (lg_wsX7_moleOf_0 _ (List.mem_of_getElem? (i := 13) rfl)) gi_nil) ls_wsX7_moleOf_0))
set_option maxRecDepth 20000 in
theorem gX7_moleOf_X7_holds : GoodIn wsX7_moleOf (wsV RX7 123 RX7 yX7_holds wsX7_holds) := goodIn_app (gi_cons (lg_wsX7_moleOf_0 _ (List.mem_of_getElem? (i := 9) rfl)) (gi_cons (lg_wsX7_moleOf_0 _ (List.mem_of_getElem? (i := 10) rfl)) (gi_cons (lg_wsX7_moleOf_0 _ (List.mem_of_getElem? (i := 11) rfl)) (gi_cons (lg_wsX7_moleOf_0 _ (List.mem_of_getElem? (i := 3) rfl)) gi_nil)))) ggX7_moleOf_X7_holds
set_option maxRecDepth 20000 in
theorem ggX7_moleOf_X7_toldOfMole : GoodIn wsX7_moleOf wsX7_toldOfMole := (gi_cons (lg_wsX7_moleOf_0 _ (List.mem_of_getElem? (i := 17) rfl)) (goodIn_app (gi_cons (lg_wsX7_moleOf_0 _ (List.mem_of_getElem? (i := 5) rfl)) (gi_cons (lg_wsX7_moleOf_0 _ (List.mem_of_getElem? (i := 18) rfl)) (gi_cons (lg_wsX7_moleOf_0 _ (List.mem_of_getElem? (i := 19) rfl)) (gi_cons (lg_wsX7_moleOf_0 _ (List.mem_of_getElem? (i := 3) rfl)) (gi_cons (lg_wsX7_moleOf_0 _ (List.mem_of_getElem? (i := 20) rfl)) gi_nil))))) ls_wsX7_moleOf_0))
set_option maxRecDepth 20000 in
theorem gX7_moleOf_X7_toldOfMole : GoodIn wsX7_moleOf (wsV RX7 224 RX7 yX7_toldOfMole wsX7_toldOfMole) := goodIn_app (gi_cons (lg_wsX7_moleOf_0 _ (List.mem_of_getElem? (i := 14) rfl)) (gi_cons (lg_wsX7_moleOf_0 _ (List.mem_of_getElem? (i := 15) rfl)) (gi_cons (lg_wsX7_moleOf_0 _ (List.mem_of_getElem? (i := 16) rfl)) (gi_cons (lg_wsX7_moleOf_0 _ (List.mem_of_getElem? (i := 3) rfl)) gi_nil)))) ggX7_moleOf_X7_toldOfMole
theorem dX7_moleOf_0 : decode cX7_moleOf 0 = .ok (.aload_n 0, 1) := by decide +kernel
theorem dX7_moleOf_1 : decode cX7_moleOf 1 = .ok (.aload_n 0, 1) := by decide +kernel
theorem dX7_moleOf_2 : decode cX7_moleOf 2 = .ok (.iload_n 1, 1) := by decide +kernel
theorem dX7_moleOf_3 : decode cX7_moleOf 3 = .ok (.invokevirtual 126, 3) := by decide +kernel
theorem dX7_moleOf_6 : decode cX7_moleOf 6 = .ok (.ifCond .ne 7, 3) := by decide +kernel
theorem dX7_moleOf_9 : decode cX7_moleOf 9 = .ok (.iconst 1, 1) := by decide +kernel
theorem dX7_moleOf_10 : decode cX7_moleOf 10 = .ok (.goto 18, 3) := by decide +kernel
theorem dX7_moleOf_13 : decode cX7_moleOf 13 = .ok (.iload_n 2, 1) := by decide +kernel
theorem dX7_moleOf_14 : decode cX7_moleOf 14 = .ok (.iconst 0, 1) := by decide +kernel
theorem dX7_moleOf_15 : decode cX7_moleOf 15 = .ok (.bipush 6, 2) := by decide +kernel
theorem dX7_moleOf_17 : decode cX7_moleOf 17 = .ok (.invokestatic 42, 3) := by decide +kernel
theorem dX7_moleOf_20 : decode cX7_moleOf 20 = .ok (.ifCond .ne 7, 3) := by decide +kernel
theorem dX7_moleOf_23 : decode cX7_moleOf 23 = .ok (.iconst 2, 1) := by decide +kernel
theorem dX7_moleOf_24 : decode cX7_moleOf 24 = .ok (.goto 4, 3) := by decide +kernel
theorem dX7_moleOf_27 : decode cX7_moleOf 27 = .ok (.iconst 0, 1) := by decide +kernel
theorem dX7_moleOf_28 : decode cX7_moleOf 28 = .ok (.invokevirtual 123, 3) := by decide +kernel
theorem dX7_moleOf_31 : decode cX7_moleOf 31 = .ok (.ifCond .eq 12, 3) := by decide +kernel
theorem dX7_moleOf_34 : decode cX7_moleOf 34 = .ok (.aload_n 0, 1) := by decide +kernel
theorem dX7_moleOf_35 : decode cX7_moleOf 35 = .ok (.iload_n 1, 1) := by decide +kernel
theorem dX7_moleOf_36 : decode cX7_moleOf 36 = .ok (.iload_n 2, 1) := by decide +kernel
theorem dX7_moleOf_37 : decode cX7_moleOf 37 = .ok (.invokevirtual 224, 3) := by decide +kernel
theorem dX7_moleOf_40 : decode cX7_moleOf 40 = .ok (.goto 4, 3) := by decide +kernel
theorem dX7_moleOf_43 : decode cX7_moleOf 43 = .ok (.iconst 0, 1) := by decide +kernel
theorem dX7_moleOf_44 : decode cX7_moleOf 44 = .ok (.ireturn, 1) := by decide +kernel
theorem lg_wsX7_isTunnel_0 : GoodIn wsX7_isTunnel ([.methodLink RX7 194 yX7_tunnels, .instanceMethod yX7_tunnels, .selects RX7 yX7_tunnels yX7_tunnels, .initialized RX7, .code yX7_tunnels cX7_tunnels 3 (some .int), .fieldLink RX7 7 "MolesLawnModel" "s" "[I", .methodLink RX7 42 yX7_in, .static yX7_in, .code yX7_in cX7_in 3 (some .boolean)] : List Cond) := goodIn_sub (fun _ h => (List.mem_cons_of_mem _ (List.mem_append_left _ h))) (by decide +kernel)
theorem ls_wsX7_isTunnel_0 : GoodIn wsX7_isTunnel wsX70 := goodIn_sub (fun _ h => (List.mem_cons_of_mem _ (List.mem_append_right _ h))) (by decide +kernel)
set_option maxRecDepth 20000 in
theorem ggX7_isTunnel_X7_tunnels : GoodIn wsX7_isTunnel wsX7_tunnels := (gi_cons (lg_wsX7_isTunnel_0 _ (List.mem_of_getElem? (i := 4) rfl)) (goodIn_app (gi_cons (lg_wsX7_isTunnel_0 _ (List.mem_of_getElem? (i := 5) rfl)) gi_nil) ls_wsX7_isTunnel_0))
set_option maxRecDepth 20000 in
theorem gX7_isTunnel_X7_tunnels : GoodIn wsX7_isTunnel (wsV RX7 194 RX7 yX7_tunnels wsX7_tunnels) := goodIn_app (gi_cons (lg_wsX7_isTunnel_0 _ (List.mem_of_getElem? (i := 0) rfl)) (gi_cons (lg_wsX7_isTunnel_0 _ (List.mem_of_getElem? (i := 1) rfl)) (gi_cons (lg_wsX7_isTunnel_0 _ (List.mem_of_getElem? (i := 2) rfl)) (gi_cons (lg_wsX7_isTunnel_0 _ (List.mem_of_getElem? (i := 3) rfl)) gi_nil)))) ggX7_isTunnel_X7_tunnels
set_option maxRecDepth 20000 in
theorem ggX7_isTunnel_X7_in : GoodIn wsX7_isTunnel wsX7_in := (gi_cons (lg_wsX7_isTunnel_0 _ (List.mem_of_getElem? (i := 8) rfl)) gi_nil)
set_option maxRecDepth 20000 in
theorem gX7_isTunnel_X7_in : GoodIn wsX7_isTunnel (va_wsS RX7 42 yX7_in wsX7_in) := goodIn_app (gi_cons (lg_wsX7_isTunnel_0 _ (List.mem_of_getElem? (i := 6) rfl)) (gi_cons (lg_wsX7_isTunnel_0 _ (List.mem_of_getElem? (i := 7) rfl)) (gi_cons (lg_wsX7_isTunnel_0 _ (List.mem_of_getElem? (i := 3) rfl)) gi_nil))) ggX7_isTunnel_X7_in
theorem dX7_isTunnel_0 : decode cX7_isTunnel 0 = .ok (.iload_n 1, 1) := by decide +kernel
theorem dX7_isTunnel_1 : decode cX7_isTunnel 1 = .ok (.iconst 0, 1) := by decide +kernel
theorem dX7_isTunnel_2 : decode cX7_isTunnel 2 = .ok (.aload_n 0, 1) := by decide +kernel
theorem dX7_isTunnel_3 : decode cX7_isTunnel 3 = .ok (.invokevirtual 194, 3) := by decide +kernel
theorem dX7_isTunnel_6 : decode cX7_isTunnel 6 = .ok (.iconst 1, 1) := by decide +kernel
theorem dX7_isTunnel_7 : decode cX7_isTunnel 7 = .ok (.isub, 1) := by decide +kernel
theorem dX7_isTunnel_8 : decode cX7_isTunnel 8 = .ok (.invokestatic 42, 3) := by decide +kernel
theorem dX7_isTunnel_11 : decode cX7_isTunnel 11 = .ok (.ireturn, 1) := by decide +kernel
theorem lg_wsX7_toldOfTunnel_0 : GoodIn wsX7_toldOfTunnel ([.methodLink RX7 227 yX7_beginOf, .instanceMethod yX7_beginOf, .selects RX7 yX7_beginOf yX7_beginOf, .initialized RX7, .code yX7_beginOf cX7_beginOf 4 (some .int), .methodLink RX7 49 yX7_endFrom, .instanceMethod yX7_endFrom, .selects RX7 yX7_endFrom yX7_endFrom, .code yX7_endFrom cX7_endFrom 3 (some .int), .fieldLink RX7 7 "MolesLawnModel" "s" "[I", .methodLink RX7 53 yX7_tuftAt, .instanceMethod yX7_tuftAt, .selects RX7 yX7_tuftAt yX7_tuftAt, .code yX7_tuftAt cX7_tuftAt 2 (some .int)] : List Cond) := goodIn_sub (fun _ h => (List.mem_cons_of_mem _ (List.mem_append_left _ h))) (by decide +kernel)
theorem ls_wsX7_toldOfTunnel_0 : GoodIn wsX7_toldOfTunnel wsX70 := goodIn_sub (fun _ h => (List.mem_cons_of_mem _ (List.mem_append_right _ h))) (by decide +kernel)
set_option maxRecDepth 20000 in
theorem ggX7_toldOfTunnel_X7_beginOf : GoodIn wsX7_toldOfTunnel wsX7_beginOf := (gi_cons (lg_wsX7_toldOfTunnel_0 _ (List.mem_of_getElem? (i := 4) rfl)) (goodIn_app (gi_cons (lg_wsX7_toldOfTunnel_0 _ (List.mem_of_getElem? (i := 5) rfl)) (gi_cons (lg_wsX7_toldOfTunnel_0 _ (List.mem_of_getElem? (i := 6) rfl)) (gi_cons (lg_wsX7_toldOfTunnel_0 _ (List.mem_of_getElem? (i := 7) rfl)) (gi_cons (lg_wsX7_toldOfTunnel_0 _ (List.mem_of_getElem? (i := 3) rfl)) (gi_cons (lg_wsX7_toldOfTunnel_0 _ (List.mem_of_getElem? (i := 8) rfl)) (gi_cons (lg_wsX7_toldOfTunnel_0 _ (List.mem_of_getElem? (i := 9) rfl)) gi_nil)))))) ls_wsX7_toldOfTunnel_0))
set_option maxRecDepth 20000 in
theorem gX7_toldOfTunnel_X7_beginOf : GoodIn wsX7_toldOfTunnel (wsV RX7 227 RX7 yX7_beginOf wsX7_beginOf) := goodIn_app (gi_cons (lg_wsX7_toldOfTunnel_0 _ (List.mem_of_getElem? (i := 0) rfl)) (gi_cons (lg_wsX7_toldOfTunnel_0 _ (List.mem_of_getElem? (i := 1) rfl)) (gi_cons (lg_wsX7_toldOfTunnel_0 _ (List.mem_of_getElem? (i := 2) rfl)) (gi_cons (lg_wsX7_toldOfTunnel_0 _ (List.mem_of_getElem? (i := 3) rfl)) gi_nil)))) ggX7_toldOfTunnel_X7_beginOf
set_option maxRecDepth 20000 in
theorem ggX7_toldOfTunnel_X7_endFrom : GoodIn wsX7_toldOfTunnel wsX7_endFrom := (gi_cons (lg_wsX7_toldOfTunnel_0 _ (List.mem_of_getElem? (i := 8) rfl)) (goodIn_app (gi_cons (lg_wsX7_toldOfTunnel_0 _ (List.mem_of_getElem? (i := 9) rfl)) gi_nil) ls_wsX7_toldOfTunnel_0))
set_option maxRecDepth 20000 in
theorem gX7_toldOfTunnel_X7_endFrom : GoodIn wsX7_toldOfTunnel (wsV RX7 49 RX7 yX7_endFrom wsX7_endFrom) := goodIn_app (gi_cons (lg_wsX7_toldOfTunnel_0 _ (List.mem_of_getElem? (i := 5) rfl)) (gi_cons (lg_wsX7_toldOfTunnel_0 _ (List.mem_of_getElem? (i := 6) rfl)) (gi_cons (lg_wsX7_toldOfTunnel_0 _ (List.mem_of_getElem? (i := 7) rfl)) (gi_cons (lg_wsX7_toldOfTunnel_0 _ (List.mem_of_getElem? (i := 3) rfl)) gi_nil)))) ggX7_toldOfTunnel_X7_endFrom
set_option maxRecDepth 20000 in
theorem ggX7_toldOfTunnel_X7_tuftAt : GoodIn wsX7_toldOfTunnel wsX7_tuftAt := (gi_cons (lg_wsX7_toldOfTunnel_0 _ (List.mem_of_getElem? (i := 13) rfl)) (goodIn_app (gi_cons (lg_wsX7_toldOfTunnel_0 _ (List.mem_of_getElem? (i := 9) rfl)) gi_nil) ls_wsX7_toldOfTunnel_0))
set_option maxRecDepth 20000 in
theorem gX7_toldOfTunnel_X7_tuftAt : GoodIn wsX7_toldOfTunnel (wsV RX7 53 RX7 yX7_tuftAt wsX7_tuftAt) := goodIn_app (gi_cons (lg_wsX7_toldOfTunnel_0 _ (List.mem_of_getElem? (i := 10) rfl)) (gi_cons (lg_wsX7_toldOfTunnel_0 _ (List.mem_of_getElem? (i := 11) rfl)) (gi_cons (lg_wsX7_toldOfTunnel_0 _ (List.mem_of_getElem? (i := 12) rfl)) (gi_cons (lg_wsX7_toldOfTunnel_0 _ (List.mem_of_getElem? (i := 3) rfl)) gi_nil)))) ggX7_toldOfTunnel_X7_tuftAt
theorem dX7_toldOfTunnel_0 : decode cX7_toldOfTunnel 0 = .ok (.aload_n 0, 1) := by decide +kernel
theorem dX7_toldOfTunnel_1 : decode cX7_toldOfTunnel 1 = .ok (.iload_n 1, 1) := by decide +kernel
theorem dX7_toldOfTunnel_2 : decode cX7_toldOfTunnel 2 = .ok (.invokevirtual 227, 3) := by decide +kernel
theorem dX7_toldOfTunnel_5 : decode cX7_toldOfTunnel 5 = .ok (.istore_n 3, 1) := by decide +kernel
theorem dX7_toldOfTunnel_6 : decode cX7_toldOfTunnel 6 = .ok (.aload_n 0, 1) := by decide +kernel
theorem dX7_toldOfTunnel_7 : decode cX7_toldOfTunnel 7 = .ok (.iload_n 3, 1) := by decide +kernel
theorem dX7_toldOfTunnel_8 : decode cX7_toldOfTunnel 8 = .ok (.invokevirtual 49, 3) := by decide +kernel
theorem dX7_toldOfTunnel_11 : decode cX7_toldOfTunnel 11 = .ok (.istore 4, 2) := by decide +kernel
theorem dX7_toldOfTunnel_13 : decode cX7_toldOfTunnel 13 = .ok (.iload_n 2, 1) := by decide +kernel
theorem dX7_toldOfTunnel_14 : decode cX7_toldOfTunnel 14 = .ok (.ifCond .ne 11, 3) := by decide +kernel
theorem dX7_toldOfTunnel_17 : decode cX7_toldOfTunnel 17 = .ok (.aload_n 0, 1) := by decide +kernel
theorem dX7_toldOfTunnel_18 : decode cX7_toldOfTunnel 18 = .ok (.iload_n 3, 1) := by decide +kernel
theorem dX7_toldOfTunnel_19 : decode cX7_toldOfTunnel 19 = .ok (.invokevirtual 53, 3) := by decide +kernel
theorem dX7_toldOfTunnel_22 : decode cX7_toldOfTunnel 22 = .ok (.goto 23, 3) := by decide +kernel
theorem dX7_toldOfTunnel_25 : decode cX7_toldOfTunnel 25 = .ok (.iload_n 2, 1) := by decide +kernel
theorem dX7_toldOfTunnel_26 : decode cX7_toldOfTunnel 26 = .ok (.iconst 1, 1) := by decide +kernel
theorem dX7_toldOfTunnel_27 : decode cX7_toldOfTunnel 27 = .ok (.if_icmp .ne 12, 3) := by decide +kernel
theorem dX7_toldOfTunnel_30 : decode cX7_toldOfTunnel 30 = .ok (.aload_n 0, 1) := by decide +kernel
theorem dX7_toldOfTunnel_31 : decode cX7_toldOfTunnel 31 = .ok (.iload 4, 2) := by decide +kernel
theorem dX7_toldOfTunnel_33 : decode cX7_toldOfTunnel 33 = .ok (.invokevirtual 53, 3) := by decide +kernel
theorem dX7_toldOfTunnel_36 : decode cX7_toldOfTunnel 36 = .ok (.goto 9, 3) := by decide +kernel
theorem dX7_toldOfTunnel_39 : decode cX7_toldOfTunnel 39 = .ok (.iload 4, 2) := by decide +kernel
theorem dX7_toldOfTunnel_41 : decode cX7_toldOfTunnel 41 = .ok (.iload_n 3, 1) := by decide +kernel
theorem dX7_toldOfTunnel_42 : decode cX7_toldOfTunnel 42 = .ok (.isub, 1) := by decide +kernel
theorem dX7_toldOfTunnel_43 : decode cX7_toldOfTunnel 43 = .ok (.iconst 1, 1) := by decide +kernel
theorem dX7_toldOfTunnel_44 : decode cX7_toldOfTunnel 44 = .ok (.iadd, 1) := by decide +kernel
theorem dX7_toldOfTunnel_45 : decode cX7_toldOfTunnel 45 = .ok (.ireturn, 1) := by decide +kernel
theorem lg_wsX7_tunnel_0 : GoodIn wsX7_tunnel wsX7_tunnel_r1 := goodIn_sub (fun _ h => (List.mem_cons_of_mem _ (List.mem_append_left _ (List.mem_append_left _ h)))) (by decide +kernel)
theorem lg_wsX7_tunnel_1 : GoodIn wsX7_tunnel wsX7_tunnel_r2 := goodIn_sub (fun _ h => (List.mem_cons_of_mem _ (List.mem_append_left _ (List.mem_append_right _ h)))) (by decide +kernel)
theorem ls_wsX7_tunnel_0 : GoodIn wsX7_tunnel wsX70 := goodIn_sub (fun _ h => (List.mem_cons_of_mem _ (List.mem_append_right _ h))) (by decide +kernel)
set_option maxRecDepth 20000 in
theorem ggX7_tunnel_X7_isTunnel : GoodIn wsX7_tunnel wsX7_isTunnel := (gi_cons (lg_wsX7_tunnel_0 _ (List.mem_of_getElem? (i := 4) rfl)) (goodIn_app (gi_cons (lg_wsX7_tunnel_0 _ (List.mem_of_getElem? (i := 5) rfl)) (gi_cons (lg_wsX7_tunnel_0 _ (List.mem_of_getElem? (i := 6) rfl)) (gi_cons (lg_wsX7_tunnel_0 _ (List.mem_of_getElem? (i := 7) rfl)) (gi_cons (lg_wsX7_tunnel_0 _ (List.mem_of_getElem? (i := 3) rfl)) (gi_cons (lg_wsX7_tunnel_0 _ (List.mem_of_getElem? (i := 8) rfl)) (gi_cons (lg_wsX7_tunnel_0 _ (List.mem_of_getElem? (i := 9) rfl)) (gi_cons (lg_wsX7_tunnel_0 _ (List.mem_of_getElem? (i := 10) rfl)) (gi_cons (lg_wsX7_tunnel_0 _ (List.mem_of_getElem? (i := 11) rfl)) (gi_cons (lg_wsX7_tunnel_0 _ (List.mem_of_getElem? (i := 12) rfl)) gi_nil))))))))) ls_wsX7_tunnel_0))
set_option maxRecDepth 20000 in
theorem gX7_tunnel_X7_isTunnel : GoodIn wsX7_tunnel (wsV RX7 230 RX7 yX7_isTunnel wsX7_isTunnel) := goodIn_app (gi_cons (lg_wsX7_tunnel_0 _ (List.mem_of_getElem? (i := 0) rfl)) (gi_cons (lg_wsX7_tunnel_0 _ (List.mem_of_getElem? (i := 1) rfl)) (gi_cons (lg_wsX7_tunnel_0 _ (List.mem_of_getElem? (i := 2) rfl)) (gi_cons (lg_wsX7_tunnel_0 _ (List.mem_of_getElem? (i := 3) rfl)) gi_nil)))) ggX7_tunnel_X7_isTunnel
set_option maxRecDepth 20000 in
theorem ggX7_tunnel_X7_in : GoodIn wsX7_tunnel wsX7_in := (gi_cons (lg_wsX7_tunnel_0 _ (List.mem_of_getElem? (i := 12) rfl)) gi_nil)
set_option maxRecDepth 20000 in
theorem gX7_tunnel_X7_in : GoodIn wsX7_tunnel (va_wsS RX7 42 yX7_in wsX7_in) := goodIn_app (gi_cons (lg_wsX7_tunnel_0 _ (List.mem_of_getElem? (i := 10) rfl)) (gi_cons (lg_wsX7_tunnel_0 _ (List.mem_of_getElem? (i := 11) rfl)) (gi_cons (lg_wsX7_tunnel_0 _ (List.mem_of_getElem? (i := 3) rfl)) gi_nil))) ggX7_tunnel_X7_in
set_option maxRecDepth 20000 in
theorem ggX7_tunnel_X7_holds : GoodIn wsX7_tunnel wsX7_holds := (gi_cons (lg_wsX7_tunnel_0 _ (List.mem_of_getElem? (i := 16) rfl)) (goodIn_app (gi_cons (lg_wsX7_tunnel_0 _ (List.mem_of_getElem? (i := 17) rfl)) gi_nil) ls_wsX7_tunnel_0))
set_option maxRecDepth 20000 in
theorem gX7_tunnel_X7_holds : GoodIn wsX7_tunnel (wsV RX7 123 RX7 yX7_holds wsX7_holds) := goodIn_app (gi_cons (lg_wsX7_tunnel_0 _ (List.mem_of_getElem? (i := 13) rfl)) (gi_cons (lg_wsX7_tunnel_0 _ (List.mem_of_getElem? (i := 14) rfl)) (gi_cons (lg_wsX7_tunnel_0 _ (List.mem_of_getElem? (i := 15) rfl)) (gi_cons (lg_wsX7_tunnel_0 _ (List.mem_of_getElem? (i := 3) rfl)) gi_nil)))) ggX7_tunnel_X7_holds
set_option maxRecDepth 20000 in
theorem ggX7_tunnel_X7_toldOfTunnel : GoodIn wsX7_tunnel wsX7_toldOfTunnel := (gi_cons (lg_wsX7_tunnel_0 _ (List.mem_of_getElem? (i := 21) rfl)) (goodIn_app (gi_cons (lg_wsX7_tunnel_0 _ (List.mem_of_getElem? (i := 22) rfl)) (gi_cons (lg_wsX7_tunnel_0 _ (List.mem_of_getElem? (i := 23) rfl)) (gi_cons (lg_wsX7_tunnel_1 _ (List.mem_of_getElem? (i := 0) rfl)) (gi_cons (lg_wsX7_tunnel_0 _ (List.mem_of_getElem? (i := 3) rfl)) (gi_cons (lg_wsX7_tunnel_1 _ (List.mem_of_getElem? (i := 1) rfl)) (gi_cons (lg_wsX7_tunnel_1 _ (List.mem_of_getElem? (i := 2) rfl)) (gi_cons (lg_wsX7_tunnel_1 _ (List.mem_of_getElem? (i := 3) rfl)) (gi_cons (lg_wsX7_tunnel_1 _ (List.mem_of_getElem? (i := 4) rfl)) (gi_cons (lg_wsX7_tunnel_1 _ (List.mem_of_getElem? (i := 5) rfl)) (gi_cons (lg_wsX7_tunnel_0 _ (List.mem_of_getElem? (i := 9) rfl)) (gi_cons (lg_wsX7_tunnel_1 _ (List.mem_of_getElem? (i := 6) rfl)) (gi_cons (lg_wsX7_tunnel_1 _ (List.mem_of_getElem? (i := 7) rfl)) (gi_cons (lg_wsX7_tunnel_1 _ (List.mem_of_getElem? (i := 8) rfl)) (gi_cons (lg_wsX7_tunnel_1 _ (List.mem_of_getElem? (i := 9) rfl)) gi_nil)))))))))))))) ls_wsX7_tunnel_0))
set_option maxRecDepth 20000 in
theorem gX7_tunnel_X7_toldOfTunnel : GoodIn wsX7_tunnel (wsV RX7 233 RX7 yX7_toldOfTunnel wsX7_toldOfTunnel) := goodIn_app (gi_cons (lg_wsX7_tunnel_0 _ (List.mem_of_getElem? (i := 18) rfl)) (gi_cons (lg_wsX7_tunnel_0 _ (List.mem_of_getElem? (i := 19) rfl)) (gi_cons (lg_wsX7_tunnel_0 _ (List.mem_of_getElem? (i := 20) rfl)) (gi_cons (lg_wsX7_tunnel_0 _ (List.mem_of_getElem? (i := 3) rfl)) gi_nil)))) ggX7_tunnel_X7_toldOfTunnel
theorem dX7_tunnel_0 : decode cX7_tunnel 0 = .ok (.aload_n 0, 1) := by decide +kernel
theorem dX7_tunnel_1 : decode cX7_tunnel 1 = .ok (.aload_n 0, 1) := by decide +kernel
theorem dX7_tunnel_2 : decode cX7_tunnel 2 = .ok (.iload_n 1, 1) := by decide +kernel
theorem dX7_tunnel_3 : decode cX7_tunnel 3 = .ok (.invokevirtual 230, 3) := by decide +kernel
theorem dX7_tunnel_6 : decode cX7_tunnel 6 = .ok (.ifCond .ne 7, 3) := by decide +kernel
theorem dX7_tunnel_9 : decode cX7_tunnel 9 = .ok (.iconst 1, 1) := by decide +kernel
theorem dX7_tunnel_10 : decode cX7_tunnel 10 = .ok (.goto 17, 3) := by decide +kernel
theorem dX7_tunnel_13 : decode cX7_tunnel 13 = .ok (.iload_n 2, 1) := by decide +kernel
theorem dX7_tunnel_14 : decode cX7_tunnel 14 = .ok (.iconst 0, 1) := by decide +kernel
theorem dX7_tunnel_15 : decode cX7_tunnel 15 = .ok (.iconst 2, 1) := by decide +kernel
theorem dX7_tunnel_16 : decode cX7_tunnel 16 = .ok (.invokestatic 42, 3) := by decide +kernel
theorem dX7_tunnel_19 : decode cX7_tunnel 19 = .ok (.ifCond .ne 7, 3) := by decide +kernel
theorem dX7_tunnel_22 : decode cX7_tunnel 22 = .ok (.iconst 2, 1) := by decide +kernel
theorem dX7_tunnel_23 : decode cX7_tunnel 23 = .ok (.goto 4, 3) := by decide +kernel
theorem dX7_tunnel_26 : decode cX7_tunnel 26 = .ok (.iconst 0, 1) := by decide +kernel
theorem dX7_tunnel_27 : decode cX7_tunnel 27 = .ok (.invokevirtual 123, 3) := by decide +kernel
theorem dX7_tunnel_30 : decode cX7_tunnel 30 = .ok (.ifCond .eq 12, 3) := by decide +kernel
theorem dX7_tunnel_33 : decode cX7_tunnel 33 = .ok (.aload_n 0, 1) := by decide +kernel
theorem dX7_tunnel_34 : decode cX7_tunnel 34 = .ok (.iload_n 1, 1) := by decide +kernel
theorem dX7_tunnel_35 : decode cX7_tunnel 35 = .ok (.iload_n 2, 1) := by decide +kernel
theorem dX7_tunnel_36 : decode cX7_tunnel 36 = .ok (.invokevirtual 233, 3) := by decide +kernel
theorem dX7_tunnel_39 : decode cX7_tunnel 39 = .ok (.goto 4, 3) := by decide +kernel
theorem dX7_tunnel_42 : decode cX7_tunnel 42 = .ok (.iconst 0, 1) := by decide +kernel
theorem dX7_tunnel_43 : decode cX7_tunnel 43 = .ok (.ireturn, 1) := by decide +kernel
theorem lg_wsX7_cellOf_0 : GoodIn wsX7_cellOf ([.methodLink RX7 233 yX7_toldOfTunnel, .instanceMethod yX7_toldOfTunnel, .selects RX7 yX7_toldOfTunnel yX7_toldOfTunnel, .initialized RX7, .code yX7_toldOfTunnel cX7_toldOfTunnel 5 (some .int), .methodLink RX7 227 yX7_beginOf, .instanceMethod yX7_beginOf, .selects RX7 yX7_beginOf yX7_beginOf, .code yX7_beginOf cX7_beginOf 4 (some .int), .methodLink RX7 49 yX7_endFrom, .instanceMethod yX7_endFrom, .selects RX7 yX7_endFrom yX7_endFrom, .code yX7_endFrom cX7_endFrom 3 (some .int), .fieldLink RX7 7 "MolesLawnModel" "s" "[I", .methodLink RX7 53 yX7_tuftAt, .instanceMethod yX7_tuftAt, .selects RX7 yX7_tuftAt yX7_tuftAt, .code yX7_tuftAt cX7_tuftAt 2 (some .int)] : List Cond) := goodIn_sub (fun _ h => (List.mem_cons_of_mem _ (List.mem_append_left _ h))) (by decide +kernel)
theorem ls_wsX7_cellOf_0 : GoodIn wsX7_cellOf wsX70 := goodIn_sub (fun _ h => (List.mem_cons_of_mem _ (List.mem_append_right _ h))) (by decide +kernel)
set_option maxRecDepth 20000 in
theorem ggX7_cellOf_X7_toldOfTunnel : GoodIn wsX7_cellOf wsX7_toldOfTunnel := (gi_cons (lg_wsX7_cellOf_0 _ (List.mem_of_getElem? (i := 4) rfl)) (goodIn_app (gi_cons (lg_wsX7_cellOf_0 _ (List.mem_of_getElem? (i := 5) rfl)) (gi_cons (lg_wsX7_cellOf_0 _ (List.mem_of_getElem? (i := 6) rfl)) (gi_cons (lg_wsX7_cellOf_0 _ (List.mem_of_getElem? (i := 7) rfl)) (gi_cons (lg_wsX7_cellOf_0 _ (List.mem_of_getElem? (i := 3) rfl)) (gi_cons (lg_wsX7_cellOf_0 _ (List.mem_of_getElem? (i := 8) rfl)) (gi_cons (lg_wsX7_cellOf_0 _ (List.mem_of_getElem? (i := 9) rfl)) (gi_cons (lg_wsX7_cellOf_0 _ (List.mem_of_getElem? (i := 10) rfl)) (gi_cons (lg_wsX7_cellOf_0 _ (List.mem_of_getElem? (i := 11) rfl)) (gi_cons (lg_wsX7_cellOf_0 _ (List.mem_of_getElem? (i := 12) rfl)) (gi_cons (lg_wsX7_cellOf_0 _ (List.mem_of_getElem? (i := 13) rfl)) (gi_cons (lg_wsX7_cellOf_0 _ (List.mem_of_getElem? (i := 14) rfl)) (gi_cons (lg_wsX7_cellOf_0 _ (List.mem_of_getElem? (i := 15) rfl)) (gi_cons (lg_wsX7_cellOf_0 _ (List.mem_of_getElem? (i := 16) rfl)) (gi_cons (lg_wsX7_cellOf_0 _ (List.mem_of_getElem? (i := 17) rfl)) gi_nil)))))))))))))) ls_wsX7_cellOf_0))
set_option maxRecDepth 20000 in
theorem gX7_cellOf_X7_toldOfTunnel : GoodIn wsX7_cellOf (wsV RX7 233 RX7 yX7_toldOfTunnel wsX7_toldOfTunnel) := goodIn_app (gi_cons (lg_wsX7_cellOf_0 _ (List.mem_of_getElem? (i := 0) rfl)) (gi_cons (lg_wsX7_cellOf_0 _ (List.mem_of_getElem? (i := 1) rfl)) (gi_cons (lg_wsX7_cellOf_0 _ (List.mem_of_getElem? (i := 2) rfl)) (gi_cons (lg_wsX7_cellOf_0 _ (List.mem_of_getElem? (i := 3) rfl)) gi_nil)))) ggX7_cellOf_X7_toldOfTunnel
set_option maxRecDepth 20000 in
theorem ggX7_cellOf_X7_beginOf : GoodIn wsX7_cellOf wsX7_beginOf := (gi_cons (lg_wsX7_cellOf_0 _ (List.mem_of_getElem? (i := 8) rfl)) (goodIn_app (gi_cons (lg_wsX7_cellOf_0 _ (List.mem_of_getElem? (i := 9) rfl)) (gi_cons (lg_wsX7_cellOf_0 _ (List.mem_of_getElem? (i := 10) rfl)) (gi_cons (lg_wsX7_cellOf_0 _ (List.mem_of_getElem? (i := 11) rfl)) (gi_cons (lg_wsX7_cellOf_0 _ (List.mem_of_getElem? (i := 3) rfl)) (gi_cons (lg_wsX7_cellOf_0 _ (List.mem_of_getElem? (i := 12) rfl)) (gi_cons (lg_wsX7_cellOf_0 _ (List.mem_of_getElem? (i := 13) rfl)) gi_nil)))))) ls_wsX7_cellOf_0))
set_option maxRecDepth 20000 in
theorem gX7_cellOf_X7_beginOf : GoodIn wsX7_cellOf (wsV RX7 227 RX7 yX7_beginOf wsX7_beginOf) := goodIn_app (gi_cons (lg_wsX7_cellOf_0 _ (List.mem_of_getElem? (i := 5) rfl)) (gi_cons (lg_wsX7_cellOf_0 _ (List.mem_of_getElem? (i := 6) rfl)) (gi_cons (lg_wsX7_cellOf_0 _ (List.mem_of_getElem? (i := 7) rfl)) (gi_cons (lg_wsX7_cellOf_0 _ (List.mem_of_getElem? (i := 3) rfl)) gi_nil)))) ggX7_cellOf_X7_beginOf
set_option maxRecDepth 20000 in
theorem ggX7_cellOf_X7_tuftAt : GoodIn wsX7_cellOf wsX7_tuftAt := (gi_cons (lg_wsX7_cellOf_0 _ (List.mem_of_getElem? (i := 17) rfl)) (goodIn_app (gi_cons (lg_wsX7_cellOf_0 _ (List.mem_of_getElem? (i := 13) rfl)) gi_nil) ls_wsX7_cellOf_0))
set_option maxRecDepth 20000 in
theorem gX7_cellOf_X7_tuftAt : GoodIn wsX7_cellOf (wsV RX7 53 RX7 yX7_tuftAt wsX7_tuftAt) := goodIn_app (gi_cons (lg_wsX7_cellOf_0 _ (List.mem_of_getElem? (i := 14) rfl)) (gi_cons (lg_wsX7_cellOf_0 _ (List.mem_of_getElem? (i := 15) rfl)) (gi_cons (lg_wsX7_cellOf_0 _ (List.mem_of_getElem? (i := 16) rfl)) (gi_cons (lg_wsX7_cellOf_0 _ (List.mem_of_getElem? (i := 3) rfl)) gi_nil)))) ggX7_cellOf_X7_tuftAt
theorem dX7_cellOf_0 : decode cX7_cellOf 0 = .ok (.iload_n 2, 1) := by decide +kernel
theorem dX7_cellOf_1 : decode cX7_cellOf 1 = .ok (.aload_n 0, 1) := by decide +kernel
theorem dX7_cellOf_2 : decode cX7_cellOf 2 = .ok (.iload_n 1, 1) := by decide +kernel
theorem dX7_cellOf_3 : decode cX7_cellOf 3 = .ok (.iconst 2, 1) := by decide +kernel
theorem dX7_cellOf_4 : decode cX7_cellOf 4 = .ok (.invokevirtual 233, 3) := by decide +kernel
theorem dX7_cellOf_7 : decode cX7_cellOf 7 = .ok (.if_icmp .ge 17, 3) := by decide +kernel
theorem dX7_cellOf_10 : decode cX7_cellOf 10 = .ok (.aload_n 0, 1) := by decide +kernel
theorem dX7_cellOf_11 : decode cX7_cellOf 11 = .ok (.aload_n 0, 1) := by decide +kernel
theorem dX7_cellOf_12 : decode cX7_cellOf 12 = .ok (.iload_n 1, 1) := by decide +kernel
theorem dX7_cellOf_13 : decode cX7_cellOf 13 = .ok (.invokevirtual 227, 3) := by decide +kernel
theorem dX7_cellOf_16 : decode cX7_cellOf 16 = .ok (.iload_n 2, 1) := by decide +kernel
theorem dX7_cellOf_17 : decode cX7_cellOf 17 = .ok (.iadd, 1) := by decide +kernel
theorem dX7_cellOf_18 : decode cX7_cellOf 18 = .ok (.invokevirtual 53, 3) := by decide +kernel
theorem dX7_cellOf_21 : decode cX7_cellOf 21 = .ok (.goto 4, 3) := by decide +kernel
theorem dX7_cellOf_24 : decode cX7_cellOf 24 = .ok (.iconst (-1), 1) := by decide +kernel
theorem dX7_cellOf_25 : decode cX7_cellOf 25 = .ok (.ireturn, 1) := by decide +kernel
theorem lg_wsX7_cell_0 : GoodIn wsX7_cell wsX7_cell_r1 := goodIn_sub (fun _ h => (List.mem_cons_of_mem _ (List.mem_append_left _ (List.mem_append_left _ h)))) (by decide +kernel)
theorem lg_wsX7_cell_1 : GoodIn wsX7_cell wsX7_cell_r2 := goodIn_sub (fun _ h => (List.mem_cons_of_mem _ (List.mem_append_left _ (List.mem_append_right _ h)))) (by decide +kernel)
theorem ls_wsX7_cell_0 : GoodIn wsX7_cell wsX70 := goodIn_sub (fun _ h => (List.mem_cons_of_mem _ (List.mem_append_right _ h))) (by decide +kernel)
set_option maxRecDepth 20000 in
theorem ggX7_cell_X7_isTunnel : GoodIn wsX7_cell wsX7_isTunnel := (gi_cons (lg_wsX7_cell_0 _ (List.mem_of_getElem? (i := 4) rfl)) (goodIn_app (gi_cons (lg_wsX7_cell_0 _ (List.mem_of_getElem? (i := 5) rfl)) (gi_cons (lg_wsX7_cell_0 _ (List.mem_of_getElem? (i := 6) rfl)) (gi_cons (lg_wsX7_cell_0 _ (List.mem_of_getElem? (i := 7) rfl)) (gi_cons (lg_wsX7_cell_0 _ (List.mem_of_getElem? (i := 3) rfl)) (gi_cons (lg_wsX7_cell_0 _ (List.mem_of_getElem? (i := 8) rfl)) (gi_cons (lg_wsX7_cell_0 _ (List.mem_of_getElem? (i := 9) rfl)) (gi_cons (lg_wsX7_cell_0 _ (List.mem_of_getElem? (i := 10) rfl)) (gi_cons (lg_wsX7_cell_0 _ (List.mem_of_getElem? (i := 11) rfl)) (gi_cons (lg_wsX7_cell_0 _ (List.mem_of_getElem? (i := 12) rfl)) gi_nil))))))))) ls_wsX7_cell_0))
set_option maxRecDepth 20000 in
theorem gX7_cell_X7_isTunnel : GoodIn wsX7_cell (wsV RX7 230 RX7 yX7_isTunnel wsX7_isTunnel) := goodIn_app (gi_cons (lg_wsX7_cell_0 _ (List.mem_of_getElem? (i := 0) rfl)) (gi_cons (lg_wsX7_cell_0 _ (List.mem_of_getElem? (i := 1) rfl)) (gi_cons (lg_wsX7_cell_0 _ (List.mem_of_getElem? (i := 2) rfl)) (gi_cons (lg_wsX7_cell_0 _ (List.mem_of_getElem? (i := 3) rfl)) gi_nil)))) ggX7_cell_X7_isTunnel
set_option maxRecDepth 20000 in
theorem ggX7_cell_X7_holds : GoodIn wsX7_cell wsX7_holds := (gi_cons (lg_wsX7_cell_0 _ (List.mem_of_getElem? (i := 16) rfl)) (goodIn_app (gi_cons (lg_wsX7_cell_0 _ (List.mem_of_getElem? (i := 17) rfl)) gi_nil) ls_wsX7_cell_0))
set_option maxRecDepth 20000 in
theorem gX7_cell_X7_holds : GoodIn wsX7_cell (wsV RX7 123 RX7 yX7_holds wsX7_holds) := goodIn_app (gi_cons (lg_wsX7_cell_0 _ (List.mem_of_getElem? (i := 13) rfl)) (gi_cons (lg_wsX7_cell_0 _ (List.mem_of_getElem? (i := 14) rfl)) (gi_cons (lg_wsX7_cell_0 _ (List.mem_of_getElem? (i := 15) rfl)) (gi_cons (lg_wsX7_cell_0 _ (List.mem_of_getElem? (i := 3) rfl)) gi_nil)))) ggX7_cell_X7_holds
set_option maxRecDepth 20000 in
theorem ggX7_cell_X7_cellOf : GoodIn wsX7_cell wsX7_cellOf := (gi_cons (lg_wsX7_cell_0 _ (List.mem_of_getElem? (i := 21) rfl)) (goodIn_app (gi_cons (lg_wsX7_cell_0 _ (List.mem_of_getElem? (i := 22) rfl)) (gi_cons (lg_wsX7_cell_0 _ (List.mem_of_getElem? (i := 23) rfl)) (gi_cons (lg_wsX7_cell_1 _ (List.mem_of_getElem? (i := 0) rfl)) (gi_cons (lg_wsX7_cell_0 _ (List.mem_of_getElem? (i := 3) rfl)) (gi_cons (lg_wsX7_cell_1 _ (List.mem_of_getElem? (i := 1) rfl)) (gi_cons (lg_wsX7_cell_1 _ (List.mem_of_getElem? (i := 2) rfl)) (gi_cons (lg_wsX7_cell_1 _ (List.mem_of_getElem? (i := 3) rfl)) (gi_cons (lg_wsX7_cell_1 _ (List.mem_of_getElem? (i := 4) rfl)) (gi_cons (lg_wsX7_cell_1 _ (List.mem_of_getElem? (i := 5) rfl)) (gi_cons (lg_wsX7_cell_1 _ (List.mem_of_getElem? (i := 6) rfl)) (gi_cons (lg_wsX7_cell_1 _ (List.mem_of_getElem? (i := 7) rfl)) (gi_cons (lg_wsX7_cell_1 _ (List.mem_of_getElem? (i := 8) rfl)) (gi_cons (lg_wsX7_cell_1 _ (List.mem_of_getElem? (i := 9) rfl)) (gi_cons (lg_wsX7_cell_0 _ (List.mem_of_getElem? (i := 9) rfl)) (gi_cons (lg_wsX7_cell_1 _ (List.mem_of_getElem? (i := 10) rfl)) (gi_cons (lg_wsX7_cell_1 _ (List.mem_of_getElem? (i := 11) rfl)) (gi_cons (lg_wsX7_cell_1 _ (List.mem_of_getElem? (i := 12) rfl)) (gi_cons (lg_wsX7_cell_1 _ (List.mem_of_getElem? (i := 13) rfl)) gi_nil)))))))))))))))))) ls_wsX7_cell_0))
set_option maxRecDepth 20000 in
theorem gX7_cell_X7_cellOf : GoodIn wsX7_cell (wsV RX7 236 RX7 yX7_cellOf wsX7_cellOf) := goodIn_app (gi_cons (lg_wsX7_cell_0 _ (List.mem_of_getElem? (i := 18) rfl)) (gi_cons (lg_wsX7_cell_0 _ (List.mem_of_getElem? (i := 19) rfl)) (gi_cons (lg_wsX7_cell_0 _ (List.mem_of_getElem? (i := 20) rfl)) (gi_cons (lg_wsX7_cell_0 _ (List.mem_of_getElem? (i := 3) rfl)) gi_nil)))) ggX7_cell_X7_cellOf
theorem dX7_cell_0 : decode cX7_cell 0 = .ok (.aload_n 0, 1) := by decide +kernel
theorem dX7_cell_1 : decode cX7_cell 1 = .ok (.aload_n 0, 1) := by decide +kernel
theorem dX7_cell_2 : decode cX7_cell 2 = .ok (.iload_n 1, 1) := by decide +kernel
theorem dX7_cell_3 : decode cX7_cell 3 = .ok (.invokevirtual 230, 3) := by decide +kernel
theorem dX7_cell_6 : decode cX7_cell 6 = .ok (.ifCond .ne 7, 3) := by decide +kernel
theorem dX7_cell_9 : decode cX7_cell 9 = .ok (.iconst 1, 1) := by decide +kernel
theorem dX7_cell_10 : decode cX7_cell 10 = .ok (.goto 12, 3) := by decide +kernel
theorem dX7_cell_13 : decode cX7_cell 13 = .ok (.iload_n 2, 1) := by decide +kernel
theorem dX7_cell_14 : decode cX7_cell 14 = .ok (.ifCond .ge 7, 3) := by decide +kernel
theorem dX7_cell_17 : decode cX7_cell 17 = .ok (.iconst 2, 1) := by decide +kernel
theorem dX7_cell_18 : decode cX7_cell 18 = .ok (.goto 4, 3) := by decide +kernel
theorem dX7_cell_21 : decode cX7_cell 21 = .ok (.iconst 0, 1) := by decide +kernel
theorem dX7_cell_22 : decode cX7_cell 22 = .ok (.invokevirtual 123, 3) := by decide +kernel
theorem dX7_cell_25 : decode cX7_cell 25 = .ok (.ifCond .eq 12, 3) := by decide +kernel
theorem dX7_cell_28 : decode cX7_cell 28 = .ok (.aload_n 0, 1) := by decide +kernel
theorem dX7_cell_29 : decode cX7_cell 29 = .ok (.iload_n 1, 1) := by decide +kernel
theorem dX7_cell_30 : decode cX7_cell 30 = .ok (.iload_n 2, 1) := by decide +kernel
theorem dX7_cell_31 : decode cX7_cell 31 = .ok (.invokevirtual 236, 3) := by decide +kernel
theorem dX7_cell_34 : decode cX7_cell 34 = .ok (.goto 4, 3) := by decide +kernel
theorem dX7_cell_37 : decode cX7_cell 37 = .ok (.iconst 0, 1) := by decide +kernel
theorem dX7_cell_38 : decode cX7_cell 38 = .ok (.ireturn, 1) := by decide +kernel
theorem lg_wsX7_layAway_0 : GoodIn wsX7_layAway ([.fieldLink RX7 35 "MolesLawnModel" "away" "[I", .fieldLink RX7 7 "MolesLawnModel" "s" "[I", .methodLink RX7 92 yX7_hasMound, .instanceMethod yX7_hasMound, .selects RX7 yX7_hasMound yX7_hasMound, .initialized RX7, .code yX7_hasMound cX7_hasMound 2 (some .boolean), .methodLink RX7 53 yX7_tuftAt, .instanceMethod yX7_tuftAt, .selects RX7 yX7_tuftAt yX7_tuftAt, .code yX7_tuftAt cX7_tuftAt 2 (some .int), .methodLink RX7 49 yX7_endFrom, .instanceMethod yX7_endFrom, .selects RX7 yX7_endFrom yX7_endFrom, .code yX7_endFrom cX7_endFrom 3 (some .int)] : List Cond) := goodIn_sub (fun _ h => (List.mem_cons_of_mem _ (List.mem_append_left _ h))) (by decide +kernel)
theorem ls_wsX7_layAway_0 : GoodIn wsX7_layAway wsX70 := goodIn_sub (fun _ h => (List.mem_cons_of_mem _ (List.mem_append_right _ h))) (by decide +kernel)
set_option maxRecDepth 20000 in
theorem ggX7_layAway_X7_hasMound : GoodIn wsX7_layAway wsX7_hasMound := (gi_cons (lg_wsX7_layAway_0 _ (List.mem_of_getElem? (i := 6) rfl)) (goodIn_app (gi_cons (lg_wsX7_layAway_0 _ (List.mem_of_getElem? (i := 1) rfl)) gi_nil) ls_wsX7_layAway_0))
set_option maxRecDepth 20000 in
theorem gX7_layAway_X7_hasMound : GoodIn wsX7_layAway (wsV RX7 92 RX7 yX7_hasMound wsX7_hasMound) := goodIn_app (gi_cons (lg_wsX7_layAway_0 _ (List.mem_of_getElem? (i := 2) rfl)) (gi_cons (lg_wsX7_layAway_0 _ (List.mem_of_getElem? (i := 3) rfl)) (gi_cons (lg_wsX7_layAway_0 _ (List.mem_of_getElem? (i := 4) rfl)) (gi_cons (lg_wsX7_layAway_0 _ (List.mem_of_getElem? (i := 5) rfl)) gi_nil)))) ggX7_layAway_X7_hasMound
set_option maxRecDepth 20000 in
theorem ggX7_layAway_X7_tuftAt : GoodIn wsX7_layAway wsX7_tuftAt := (gi_cons (lg_wsX7_layAway_0 _ (List.mem_of_getElem? (i := 10) rfl)) (goodIn_app (gi_cons (lg_wsX7_layAway_0 _ (List.mem_of_getElem? (i := 1) rfl)) gi_nil) ls_wsX7_layAway_0))
set_option maxRecDepth 20000 in
theorem gX7_layAway_X7_tuftAt : GoodIn wsX7_layAway (wsV RX7 53 RX7 yX7_tuftAt wsX7_tuftAt) := goodIn_app (gi_cons (lg_wsX7_layAway_0 _ (List.mem_of_getElem? (i := 7) rfl)) (gi_cons (lg_wsX7_layAway_0 _ (List.mem_of_getElem? (i := 8) rfl)) (gi_cons (lg_wsX7_layAway_0 _ (List.mem_of_getElem? (i := 9) rfl)) (gi_cons (lg_wsX7_layAway_0 _ (List.mem_of_getElem? (i := 5) rfl)) gi_nil)))) ggX7_layAway_X7_tuftAt
set_option maxRecDepth 20000 in
theorem ggX7_layAway_X7_endFrom : GoodIn wsX7_layAway wsX7_endFrom := (gi_cons (lg_wsX7_layAway_0 _ (List.mem_of_getElem? (i := 14) rfl)) (goodIn_app (gi_cons (lg_wsX7_layAway_0 _ (List.mem_of_getElem? (i := 1) rfl)) gi_nil) ls_wsX7_layAway_0))
set_option maxRecDepth 20000 in
theorem gX7_layAway_X7_endFrom : GoodIn wsX7_layAway (wsV RX7 49 RX7 yX7_endFrom wsX7_endFrom) := goodIn_app (gi_cons (lg_wsX7_layAway_0 _ (List.mem_of_getElem? (i := 11) rfl)) (gi_cons (lg_wsX7_layAway_0 _ (List.mem_of_getElem? (i := 12) rfl)) (gi_cons (lg_wsX7_layAway_0 _ (List.mem_of_getElem? (i := 13) rfl)) (gi_cons (lg_wsX7_layAway_0 _ (List.mem_of_getElem? (i := 5) rfl)) gi_nil)))) ggX7_layAway_X7_endFrom
theorem dX7_layAway_0 : decode cX7_layAway 0 = .ok (.iconst 0, 1) := by decide +kernel
theorem dX7_layAway_1 : decode cX7_layAway 1 = .ok (.istore_n 2, 1) := by decide +kernel
theorem dX7_layAway_2 : decode cX7_layAway 2 = .ok (.iload_n 2, 1) := by decide +kernel
theorem dX7_layAway_3 : decode cX7_layAway 3 = .ok (.bipush 64, 2) := by decide +kernel
theorem dX7_layAway_5 : decode cX7_layAway 5 = .ok (.if_icmp .ge 35, 3) := by decide +kernel
theorem dX7_layAway_8 : decode cX7_layAway 8 = .ok (.aload_n 0, 1) := by decide +kernel
theorem dX7_layAway_9 : decode cX7_layAway 9 = .ok (.getfield 35, 3) := by decide +kernel
theorem dX7_layAway_12 : decode cX7_layAway 12 = .ok (.iload_n 2, 1) := by decide +kernel
theorem dX7_layAway_13 : decode cX7_layAway 13 = .ok (.iload_n 2, 1) := by decide +kernel
theorem dX7_layAway_14 : decode cX7_layAway 14 = .ok (.iload_n 1, 1) := by decide +kernel
theorem dX7_layAway_15 : decode cX7_layAway 15 = .ok (.if_icmp .ne 15, 3) := by decide +kernel
theorem dX7_layAway_18 : decode cX7_layAway 18 = .ok (.aload_n 0, 1) := by decide +kernel
theorem dX7_layAway_19 : decode cX7_layAway 19 = .ok (.iload_n 2, 1) := by decide +kernel
theorem dX7_layAway_20 : decode cX7_layAway 20 = .ok (.invokevirtual 92, 3) := by decide +kernel
theorem dX7_layAway_23 : decode cX7_layAway 23 = .ok (.ifCond .eq 7, 3) := by decide +kernel
theorem dX7_layAway_26 : decode cX7_layAway 26 = .ok (.iconst 0, 1) := by decide +kernel
theorem dX7_layAway_27 : decode cX7_layAway 27 = .ok (.goto 6, 3) := by decide +kernel
theorem dX7_layAway_30 : decode cX7_layAway 30 = .ok (.sipush 1000, 3) := by decide +kernel
theorem dX7_layAway_33 : decode cX7_layAway 33 = .ok (.iastore, 1) := by decide +kernel
theorem dX7_layAway_34 : decode cX7_layAway 34 = .ok (.iinc 2 1, 3) := by decide +kernel
theorem dX7_layAway_37 : decode cX7_layAway 37 = .ok (.goto (-35), 3) := by decide +kernel
theorem dX7_layAway_40 : decode cX7_layAway 40 = .ok (.iconst 1, 1) := by decide +kernel
theorem dX7_layAway_41 : decode cX7_layAway 41 = .ok (.istore_n 2, 1) := by decide +kernel
theorem dX7_layAway_42 : decode cX7_layAway 42 = .ok (.iload_n 2, 1) := by decide +kernel
theorem dX7_layAway_43 : decode cX7_layAway 43 = .ok (.ifCond .eq 200, 3) := by decide +kernel
theorem dX7_layAway_46 : decode cX7_layAway 46 = .ok (.iconst 0, 1) := by decide +kernel
theorem dX7_layAway_47 : decode cX7_layAway 47 = .ok (.istore_n 2, 1) := by decide +kernel
theorem dX7_layAway_48 : decode cX7_layAway 48 = .ok (.iconst 0, 1) := by decide +kernel
theorem dX7_layAway_49 : decode cX7_layAway 49 = .ok (.istore_n 3, 1) := by decide +kernel
theorem dX7_layAway_50 : decode cX7_layAway 50 = .ok (.iload_n 3, 1) := by decide +kernel
theorem dX7_layAway_51 : decode cX7_layAway 51 = .ok (.aload_n 0, 1) := by decide +kernel
theorem dX7_layAway_52 : decode cX7_layAway 52 = .ok (.getfield 7, 3) := by decide +kernel
theorem dX7_layAway_55 : decode cX7_layAway 55 = .ok (.bipush 7, 2) := by decide +kernel
theorem dX7_layAway_57 : decode cX7_layAway 57 = .ok (.iaload, 1) := by decide +kernel
theorem dX7_layAway_58 : decode cX7_layAway 58 = .ok (.if_icmp .ge 182, 3) := by decide +kernel
theorem dX7_layAway_61 : decode cX7_layAway 61 = .ok (.aload_n 0, 1) := by decide +kernel
theorem dX7_layAway_62 : decode cX7_layAway 62 = .ok (.iload_n 3, 1) := by decide +kernel
theorem dX7_layAway_63 : decode cX7_layAway 63 = .ok (.invokevirtual 53, 3) := by decide +kernel
theorem dX7_layAway_66 : decode cX7_layAway 66 = .ok (.istore 4, 2) := by decide +kernel
theorem dX7_layAway_68 : decode cX7_layAway 68 = .ok (.aload_n 0, 1) := by decide +kernel
theorem dX7_layAway_69 : decode cX7_layAway 69 = .ok (.aload_n 0, 1) := by decide +kernel
theorem dX7_layAway_70 : decode cX7_layAway 70 = .ok (.iload_n 3, 1) := by decide +kernel
theorem dX7_layAway_71 : decode cX7_layAway 71 = .ok (.invokevirtual 49, 3) := by decide +kernel
theorem dX7_layAway_74 : decode cX7_layAway 74 = .ok (.invokevirtual 53, 3) := by decide +kernel
theorem dX7_layAway_77 : decode cX7_layAway 77 = .ok (.istore 5, 2) := by decide +kernel
theorem dX7_layAway_79 : decode cX7_layAway 79 = .ok (.aload_n 0, 1) := by decide +kernel
theorem dX7_layAway_80 : decode cX7_layAway 80 = .ok (.getfield 35, 3) := by decide +kernel
theorem dX7_layAway_83 : decode cX7_layAway 83 = .ok (.iload 4, 2) := by decide +kernel
theorem dX7_layAway_85 : decode cX7_layAway 85 = .ok (.iaload, 1) := by decide +kernel
theorem dX7_layAway_86 : decode cX7_layAway 86 = .ok (.iconst 1, 1) := by decide +kernel
theorem dX7_layAway_87 : decode cX7_layAway 87 = .ok (.iadd, 1) := by decide +kernel
theorem dX7_layAway_88 : decode cX7_layAway 88 = .ok (.aload_n 0, 1) := by decide +kernel
theorem dX7_layAway_89 : decode cX7_layAway 89 = .ok (.getfield 35, 3) := by decide +kernel
theorem dX7_layAway_92 : decode cX7_layAway 92 = .ok (.iload 5, 2) := by decide +kernel
theorem dX7_layAway_94 : decode cX7_layAway 94 = .ok (.iaload, 1) := by decide +kernel
theorem dX7_layAway_95 : decode cX7_layAway 95 = .ok (.if_icmp .lt 22, 3) := by decide +kernel
theorem dX7_layAway_98 : decode cX7_layAway 98 = .ok (.aload_n 0, 1) := by decide +kernel
theorem dX7_layAway_99 : decode cX7_layAway 99 = .ok (.getfield 35, 3) := by decide +kernel
theorem dX7_layAway_102 : decode cX7_layAway 102 = .ok (.iload 5, 2) := by decide +kernel
theorem dX7_layAway_104 : decode cX7_layAway 104 = .ok (.iaload, 1) := by decide +kernel
theorem dX7_layAway_105 : decode cX7_layAway 105 = .ok (.iconst 1, 1) := by decide +kernel
theorem dX7_layAway_106 : decode cX7_layAway 106 = .ok (.iadd, 1) := by decide +kernel
theorem dX7_layAway_107 : decode cX7_layAway 107 = .ok (.aload_n 0, 1) := by decide +kernel
theorem dX7_layAway_108 : decode cX7_layAway 108 = .ok (.getfield 35, 3) := by decide +kernel
theorem dX7_layAway_111 : decode cX7_layAway 111 = .ok (.iload 4, 2) := by decide +kernel
theorem dX7_layAway_113 : decode cX7_layAway 113 = .ok (.iaload, 1) := by decide +kernel
theorem dX7_layAway_114 : decode cX7_layAway 114 = .ok (.if_icmp .ge 7, 3) := by decide +kernel
theorem dX7_layAway_117 : decode cX7_layAway 117 = .ok (.iconst 1, 1) := by decide +kernel
theorem dX7_layAway_118 : decode cX7_layAway 118 = .ok (.goto 4, 3) := by decide +kernel
theorem dX7_layAway_121 : decode cX7_layAway 121 = .ok (.iconst 0, 1) := by decide +kernel
theorem dX7_layAway_122 : decode cX7_layAway 122 = .ok (.istore 6, 2) := by decide +kernel
theorem dX7_layAway_124 : decode cX7_layAway 124 = .ok (.aload_n 0, 1) := by decide +kernel
theorem dX7_layAway_125 : decode cX7_layAway 125 = .ok (.getfield 35, 3) := by decide +kernel
theorem dX7_layAway_128 : decode cX7_layAway 128 = .ok (.iload 5, 2) := by decide +kernel
theorem dX7_layAway_130 : decode cX7_layAway 130 = .ok (.aload_n 0, 1) := by decide +kernel
theorem dX7_layAway_131 : decode cX7_layAway 131 = .ok (.getfield 35, 3) := by decide +kernel
theorem dX7_layAway_134 : decode cX7_layAway 134 = .ok (.iload 4, 2) := by decide +kernel
theorem dX7_layAway_136 : decode cX7_layAway 136 = .ok (.iaload, 1) := by decide +kernel
theorem dX7_layAway_137 : decode cX7_layAway 137 = .ok (.iconst 1, 1) := by decide +kernel
theorem dX7_layAway_138 : decode cX7_layAway 138 = .ok (.iadd, 1) := by decide +kernel
theorem dX7_layAway_139 : decode cX7_layAway 139 = .ok (.aload_n 0, 1) := by decide +kernel
theorem dX7_layAway_140 : decode cX7_layAway 140 = .ok (.getfield 35, 3) := by decide +kernel
theorem dX7_layAway_143 : decode cX7_layAway 143 = .ok (.iload 5, 2) := by decide +kernel
theorem dX7_layAway_145 : decode cX7_layAway 145 = .ok (.iaload, 1) := by decide +kernel
theorem dX7_layAway_146 : decode cX7_layAway 146 = .ok (.if_icmp .ge 15, 3) := by decide +kernel
theorem dX7_layAway_149 : decode cX7_layAway 149 = .ok (.aload_n 0, 1) := by decide +kernel
theorem dX7_layAway_150 : decode cX7_layAway 150 = .ok (.getfield 35, 3) := by decide +kernel
theorem dX7_layAway_153 : decode cX7_layAway 153 = .ok (.iload 4, 2) := by decide +kernel
theorem dX7_layAway_155 : decode cX7_layAway 155 = .ok (.iaload, 1) := by decide +kernel
theorem dX7_layAway_156 : decode cX7_layAway 156 = .ok (.iconst 1, 1) := by decide +kernel
theorem dX7_layAway_157 : decode cX7_layAway 157 = .ok (.iadd, 1) := by decide +kernel
theorem dX7_layAway_158 : decode cX7_layAway 158 = .ok (.goto 10, 3) := by decide +kernel
theorem dX7_layAway_161 : decode cX7_layAway 161 = .ok (.aload_n 0, 1) := by decide +kernel
theorem dX7_layAway_162 : decode cX7_layAway 162 = .ok (.getfield 35, 3) := by decide +kernel
theorem dX7_layAway_165 : decode cX7_layAway 165 = .ok (.iload 5, 2) := by decide +kernel
theorem dX7_layAway_167 : decode cX7_layAway 167 = .ok (.iaload, 1) := by decide +kernel
theorem dX7_layAway_168 : decode cX7_layAway 168 = .ok (.iastore, 1) := by decide +kernel
theorem dX7_layAway_169 : decode cX7_layAway 169 = .ok (.aload_n 0, 1) := by decide +kernel
theorem dX7_layAway_170 : decode cX7_layAway 170 = .ok (.getfield 35, 3) := by decide +kernel
theorem dX7_layAway_173 : decode cX7_layAway 173 = .ok (.iload 4, 2) := by decide +kernel
theorem dX7_layAway_175 : decode cX7_layAway 175 = .ok (.aload_n 0, 1) := by decide +kernel
theorem dX7_layAway_176 : decode cX7_layAway 176 = .ok (.getfield 35, 3) := by decide +kernel
theorem dX7_layAway_179 : decode cX7_layAway 179 = .ok (.iload 5, 2) := by decide +kernel
theorem dX7_layAway_181 : decode cX7_layAway 181 = .ok (.iaload, 1) := by decide +kernel
theorem dX7_layAway_182 : decode cX7_layAway 182 = .ok (.iconst 1, 1) := by decide +kernel
theorem dX7_layAway_183 : decode cX7_layAway 183 = .ok (.iadd, 1) := by decide +kernel
theorem dX7_layAway_184 : decode cX7_layAway 184 = .ok (.aload_n 0, 1) := by decide +kernel
theorem dX7_layAway_185 : decode cX7_layAway 185 = .ok (.getfield 35, 3) := by decide +kernel
theorem dX7_layAway_188 : decode cX7_layAway 188 = .ok (.iload 4, 2) := by decide +kernel
theorem dX7_layAway_190 : decode cX7_layAway 190 = .ok (.iaload, 1) := by decide +kernel
theorem dX7_layAway_191 : decode cX7_layAway 191 = .ok (.if_icmp .ge 15, 3) := by decide +kernel
theorem dX7_layAway_194 : decode cX7_layAway 194 = .ok (.aload_n 0, 1) := by decide +kernel
theorem dX7_layAway_195 : decode cX7_layAway 195 = .ok (.getfield 35, 3) := by decide +kernel
theorem dX7_layAway_198 : decode cX7_layAway 198 = .ok (.iload 5, 2) := by decide +kernel
theorem dX7_layAway_200 : decode cX7_layAway 200 = .ok (.iaload, 1) := by decide +kernel
theorem dX7_layAway_201 : decode cX7_layAway 201 = .ok (.iconst 1, 1) := by decide +kernel
theorem dX7_layAway_202 : decode cX7_layAway 202 = .ok (.iadd, 1) := by decide +kernel
theorem dX7_layAway_203 : decode cX7_layAway 203 = .ok (.goto 10, 3) := by decide +kernel
theorem dX7_layAway_206 : decode cX7_layAway 206 = .ok (.aload_n 0, 1) := by decide +kernel
theorem dX7_layAway_207 : decode cX7_layAway 207 = .ok (.getfield 35, 3) := by decide +kernel
theorem dX7_layAway_210 : decode cX7_layAway 210 = .ok (.iload 4, 2) := by decide +kernel
theorem dX7_layAway_212 : decode cX7_layAway 212 = .ok (.iaload, 1) := by decide +kernel
theorem dX7_layAway_213 : decode cX7_layAway 213 = .ok (.iastore, 1) := by decide +kernel
theorem dX7_layAway_214 : decode cX7_layAway 214 = .ok (.iload_n 2, 1) := by decide +kernel
theorem dX7_layAway_215 : decode cX7_layAway 215 = .ok (.ifCond .ne 8, 3) := by decide +kernel
theorem dX7_layAway_218 : decode cX7_layAway 218 = .ok (.iload 6, 2) := by decide +kernel
theorem dX7_layAway_220 : decode cX7_layAway 220 = .ok (.ifCond .eq 7, 3) := by decide +kernel
theorem dX7_layAway_223 : decode cX7_layAway 223 = .ok (.iconst 1, 1) := by decide +kernel
theorem dX7_layAway_224 : decode cX7_layAway 224 = .ok (.goto 4, 3) := by decide +kernel
theorem dX7_layAway_227 : decode cX7_layAway 227 = .ok (.iconst 0, 1) := by decide +kernel
theorem dX7_layAway_228 : decode cX7_layAway 228 = .ok (.istore_n 2, 1) := by decide +kernel
theorem dX7_layAway_229 : decode cX7_layAway 229 = .ok (.aload_n 0, 1) := by decide +kernel
theorem dX7_layAway_230 : decode cX7_layAway 230 = .ok (.iload_n 3, 1) := by decide +kernel
theorem dX7_layAway_231 : decode cX7_layAway 231 = .ok (.invokevirtual 49, 3) := by decide +kernel
theorem dX7_layAway_234 : decode cX7_layAway 234 = .ok (.iconst 1, 1) := by decide +kernel
theorem dX7_layAway_235 : decode cX7_layAway 235 = .ok (.iadd, 1) := by decide +kernel
theorem dX7_layAway_236 : decode cX7_layAway 236 = .ok (.istore_n 3, 1) := by decide +kernel
theorem dX7_layAway_237 : decode cX7_layAway 237 = .ok (.goto (-187), 3) := by decide +kernel
theorem dX7_layAway_240 : decode cX7_layAway 240 = .ok (.goto (-198), 3) := by decide +kernel
theorem dX7_layAway_243 : decode cX7_layAway 243 = .ok (.return_, 1) := by decide +kernel
theorem lg_wsX7_groups_0 : GoodIn wsX7_groups ([.fieldLink RX7 35 "MolesLawnModel" "away" "[I", .methodLink RX7 239 yX7_layAway, .instanceMethod yX7_layAway, .selects RX7 yX7_layAway yX7_layAway, .initialized RX7, .code yX7_layAway cX7_layAway 7 none, .fieldLink RX7 7 "MolesLawnModel" "s" "[I", .methodLink RX7 92 yX7_hasMound, .instanceMethod yX7_hasMound, .selects RX7 yX7_hasMound yX7_hasMound, .code yX7_hasMound cX7_hasMound 2 (some .boolean), .methodLink RX7 53 yX7_tuftAt, .instanceMethod yX7_tuftAt, .selects RX7 yX7_tuftAt yX7_tuftAt, .code yX7_tuftAt cX7_tuftAt 2 (some .int), .methodLink RX7 49 yX7_endFrom, .instanceMethod yX7_endFrom, .selects RX7 yX7_endFrom yX7_endFrom, .code yX7_endFrom cX7_endFrom 3 (some .int)] : List Cond) := goodIn_sub (fun _ h => (List.mem_cons_of_mem _ (List.mem_append_left _ h))) (by decide +kernel)
theorem ls_wsX7_groups_0 : GoodIn wsX7_groups wsX70 := goodIn_sub (fun _ h => (List.mem_cons_of_mem _ (List.mem_append_right _ h))) (by decide +kernel)
set_option maxRecDepth 20000 in
theorem ggX7_groups_X7_layAway : GoodIn wsX7_groups wsX7_layAway := (gi_cons (lg_wsX7_groups_0 _ (List.mem_of_getElem? (i := 5) rfl)) (goodIn_app (gi_cons (lg_wsX7_groups_0 _ (List.mem_of_getElem? (i := 0) rfl)) (gi_cons (lg_wsX7_groups_0 _ (List.mem_of_getElem? (i := 6) rfl)) (gi_cons (lg_wsX7_groups_0 _ (List.mem_of_getElem? (i := 7) rfl)) (gi_cons (lg_wsX7_groups_0 _ (List.mem_of_getElem? (i := 8) rfl)) (gi_cons (lg_wsX7_groups_0 _ (List.mem_of_getElem? (i := 9) rfl)) (gi_cons (lg_wsX7_groups_0 _ (List.mem_of_getElem? (i := 4) rfl)) (gi_cons (lg_wsX7_groups_0 _ (List.mem_of_getElem? (i := 10) rfl)) (gi_cons (lg_wsX7_groups_0 _ (List.mem_of_getElem? (i := 11) rfl)) (gi_cons (lg_wsX7_groups_0 _ (List.mem_of_getElem? (i := 12) rfl)) (gi_cons (lg_wsX7_groups_0 _ (List.mem_of_getElem? (i := 13) rfl)) (gi_cons (lg_wsX7_groups_0 _ (List.mem_of_getElem? (i := 14) rfl)) (gi_cons (lg_wsX7_groups_0 _ (List.mem_of_getElem? (i := 15) rfl)) (gi_cons (lg_wsX7_groups_0 _ (List.mem_of_getElem? (i := 16) rfl)) (gi_cons (lg_wsX7_groups_0 _ (List.mem_of_getElem? (i := 17) rfl)) (gi_cons (lg_wsX7_groups_0 _ (List.mem_of_getElem? (i := 18) rfl)) gi_nil))))))))))))))) ls_wsX7_groups_0))
set_option maxRecDepth 20000 in
theorem gX7_groups_X7_layAway : GoodIn wsX7_groups (wsV RX7 239 RX7 yX7_layAway wsX7_layAway) := goodIn_app (gi_cons (lg_wsX7_groups_0 _ (List.mem_of_getElem? (i := 1) rfl)) (gi_cons (lg_wsX7_groups_0 _ (List.mem_of_getElem? (i := 2) rfl)) (gi_cons (lg_wsX7_groups_0 _ (List.mem_of_getElem? (i := 3) rfl)) (gi_cons (lg_wsX7_groups_0 _ (List.mem_of_getElem? (i := 4) rfl)) gi_nil)))) ggX7_groups_X7_layAway
set_option maxRecDepth 20000 in
theorem ggX7_groups_X7_hasMound : GoodIn wsX7_groups wsX7_hasMound := (gi_cons (lg_wsX7_groups_0 _ (List.mem_of_getElem? (i := 10) rfl)) (goodIn_app (gi_cons (lg_wsX7_groups_0 _ (List.mem_of_getElem? (i := 6) rfl)) gi_nil) ls_wsX7_groups_0))
set_option maxRecDepth 20000 in
theorem gX7_groups_X7_hasMound : GoodIn wsX7_groups (wsV RX7 92 RX7 yX7_hasMound wsX7_hasMound) := goodIn_app (gi_cons (lg_wsX7_groups_0 _ (List.mem_of_getElem? (i := 7) rfl)) (gi_cons (lg_wsX7_groups_0 _ (List.mem_of_getElem? (i := 8) rfl)) (gi_cons (lg_wsX7_groups_0 _ (List.mem_of_getElem? (i := 9) rfl)) (gi_cons (lg_wsX7_groups_0 _ (List.mem_of_getElem? (i := 4) rfl)) gi_nil)))) ggX7_groups_X7_hasMound
theorem dX7_groups_0 : decode cX7_groups 0 = .ok (.iconst 0, 1) := by decide +kernel
theorem dX7_groups_1 : decode cX7_groups 1 = .ok (.istore_n 1, 1) := by decide +kernel
theorem dX7_groups_2 : decode cX7_groups 2 = .ok (.iconst 0, 1) := by decide +kernel
theorem dX7_groups_3 : decode cX7_groups 3 = .ok (.istore_n 2, 1) := by decide +kernel
theorem dX7_groups_4 : decode cX7_groups 4 = .ok (.iload_n 2, 1) := by decide +kernel
theorem dX7_groups_5 : decode cX7_groups 5 = .ok (.bipush 64, 2) := by decide +kernel
theorem dX7_groups_7 : decode cX7_groups 7 = .ok (.if_icmp .ge 70, 3) := by decide +kernel
theorem dX7_groups_10 : decode cX7_groups 10 = .ok (.aload_n 0, 1) := by decide +kernel
theorem dX7_groups_11 : decode cX7_groups 11 = .ok (.iload_n 2, 1) := by decide +kernel
theorem dX7_groups_12 : decode cX7_groups 12 = .ok (.invokevirtual 239, 3) := by decide +kernel
theorem dX7_groups_15 : decode cX7_groups 15 = .ok (.aload_n 0, 1) := by decide +kernel
theorem dX7_groups_16 : decode cX7_groups 16 = .ok (.iload_n 2, 1) := by decide +kernel
theorem dX7_groups_17 : decode cX7_groups 17 = .ok (.invokevirtual 92, 3) := by decide +kernel
theorem dX7_groups_20 : decode cX7_groups 20 = .ok (.istore_n 3, 1) := by decide +kernel
theorem dX7_groups_21 : decode cX7_groups 21 = .ok (.iconst 0, 1) := by decide +kernel
theorem dX7_groups_22 : decode cX7_groups 22 = .ok (.istore 4, 2) := by decide +kernel
theorem dX7_groups_24 : decode cX7_groups 24 = .ok (.iload 4, 2) := by decide +kernel
theorem dX7_groups_26 : decode cX7_groups 26 = .ok (.iload_n 2, 1) := by decide +kernel
theorem dX7_groups_27 : decode cX7_groups 27 = .ok (.if_icmp .ge 32, 3) := by decide +kernel
theorem dX7_groups_30 : decode cX7_groups 30 = .ok (.iload_n 3, 1) := by decide +kernel
theorem dX7_groups_31 : decode cX7_groups 31 = .ok (.ifCond .eq 20, 3) := by decide +kernel
theorem dX7_groups_34 : decode cX7_groups 34 = .ok (.aload_n 0, 1) := by decide +kernel
theorem dX7_groups_35 : decode cX7_groups 35 = .ok (.getfield 35, 3) := by decide +kernel
theorem dX7_groups_38 : decode cX7_groups 38 = .ok (.iload 4, 2) := by decide +kernel
theorem dX7_groups_40 : decode cX7_groups 40 = .ok (.iaload, 1) := by decide +kernel
theorem dX7_groups_41 : decode cX7_groups 41 = .ok (.sipush 1000, 3) := by decide +kernel
theorem dX7_groups_44 : decode cX7_groups 44 = .ok (.if_icmp .ne 7, 3) := by decide +kernel
theorem dX7_groups_47 : decode cX7_groups 47 = .ok (.iconst 1, 1) := by decide +kernel
theorem dX7_groups_48 : decode cX7_groups 48 = .ok (.goto 4, 3) := by decide +kernel
theorem dX7_groups_51 : decode cX7_groups 51 = .ok (.iconst 0, 1) := by decide +kernel
theorem dX7_groups_52 : decode cX7_groups 52 = .ok (.istore_n 3, 1) := by decide +kernel
theorem dX7_groups_53 : decode cX7_groups 53 = .ok (.iinc 4 1, 3) := by decide +kernel
theorem dX7_groups_56 : decode cX7_groups 56 = .ok (.goto (-32), 3) := by decide +kernel
theorem dX7_groups_59 : decode cX7_groups 59 = .ok (.iload_n 1, 1) := by decide +kernel
theorem dX7_groups_60 : decode cX7_groups 60 = .ok (.iload_n 3, 1) := by decide +kernel
theorem dX7_groups_61 : decode cX7_groups 61 = .ok (.ifCond .eq 7, 3) := by decide +kernel
theorem dX7_groups_64 : decode cX7_groups 64 = .ok (.iconst 1, 1) := by decide +kernel
theorem dX7_groups_65 : decode cX7_groups 65 = .ok (.goto 4, 3) := by decide +kernel
theorem dX7_groups_68 : decode cX7_groups 68 = .ok (.iconst 0, 1) := by decide +kernel
theorem dX7_groups_69 : decode cX7_groups 69 = .ok (.iadd, 1) := by decide +kernel
theorem dX7_groups_70 : decode cX7_groups 70 = .ok (.istore_n 1, 1) := by decide +kernel
theorem dX7_groups_71 : decode cX7_groups 71 = .ok (.iinc 2 1, 3) := by decide +kernel
theorem dX7_groups_74 : decode cX7_groups 74 = .ok (.goto (-70), 3) := by decide +kernel
theorem dX7_groups_77 : decode cX7_groups 77 = .ok (.iload_n 1, 1) := by decide +kernel
theorem dX7_groups_78 : decode cX7_groups 78 = .ok (.ireturn, 1) := by decide +kernel
theorem dX7_sumOf_0 : decode cX7_sumOf 0 = .ok (.iconst 0, 1) := by decide +kernel
theorem dX7_sumOf_1 : decode cX7_sumOf 1 = .ok (.istore_n 2, 1) := by decide +kernel
theorem dX7_sumOf_2 : decode cX7_sumOf 2 = .ok (.iconst 0, 1) := by decide +kernel
theorem dX7_sumOf_3 : decode cX7_sumOf 3 = .ok (.istore_n 3, 1) := by decide +kernel
theorem dX7_sumOf_4 : decode cX7_sumOf 4 = .ok (.iload_n 3, 1) := by decide +kernel
theorem dX7_sumOf_5 : decode cX7_sumOf 5 = .ok (.bipush 64, 2) := by decide +kernel
theorem dX7_sumOf_7 : decode cX7_sumOf 7 = .ok (.if_icmp .ge 28, 3) := by decide +kernel
theorem dX7_sumOf_10 : decode cX7_sumOf 10 = .ok (.iload_n 2, 1) := by decide +kernel
theorem dX7_sumOf_11 : decode cX7_sumOf 11 = .ok (.aload_n 0, 1) := by decide +kernel
theorem dX7_sumOf_12 : decode cX7_sumOf 12 = .ok (.getfield 7, 3) := by decide +kernel
theorem dX7_sumOf_15 : decode cX7_sumOf 15 = .ok (.iload_n 1, 1) := by decide +kernel
theorem dX7_sumOf_16 : decode cX7_sumOf 16 = .ok (.iload_n 3, 1) := by decide +kernel
theorem dX7_sumOf_17 : decode cX7_sumOf 17 = .ok (.iadd, 1) := by decide +kernel
theorem dX7_sumOf_18 : decode cX7_sumOf 18 = .ok (.iaload, 1) := by decide +kernel
theorem dX7_sumOf_19 : decode cX7_sumOf 19 = .ok (.ifCond .le 7, 3) := by decide +kernel
theorem dX7_sumOf_22 : decode cX7_sumOf 22 = .ok (.iconst 1, 1) := by decide +kernel
theorem dX7_sumOf_23 : decode cX7_sumOf 23 = .ok (.goto 4, 3) := by decide +kernel
theorem dX7_sumOf_26 : decode cX7_sumOf 26 = .ok (.iconst 0, 1) := by decide +kernel
theorem dX7_sumOf_27 : decode cX7_sumOf 27 = .ok (.iadd, 1) := by decide +kernel
theorem dX7_sumOf_28 : decode cX7_sumOf 28 = .ok (.istore_n 2, 1) := by decide +kernel
theorem dX7_sumOf_29 : decode cX7_sumOf 29 = .ok (.iinc 3 1, 3) := by decide +kernel
theorem dX7_sumOf_32 : decode cX7_sumOf 32 = .ok (.goto (-28), 3) := by decide +kernel
theorem dX7_sumOf_35 : decode cX7_sumOf 35 = .ok (.iload_n 2, 1) := by decide +kernel
theorem dX7_sumOf_36 : decode cX7_sumOf 36 = .ok (.ireturn, 1) := by decide +kernel
theorem lg_wsX7_counted_0 : GoodIn wsX7_counted wsX7_counted_r1 := goodIn_sub (fun _ h => (List.mem_cons_of_mem _ (List.mem_append_left _ (List.mem_append_left _ h)))) (by decide +kernel)
theorem lg_wsX7_counted_1 : GoodIn wsX7_counted wsX7_counted_r2 := goodIn_sub (fun _ h => (List.mem_cons_of_mem _ (List.mem_append_left _ (List.mem_append_right _ h)))) (by decide +kernel)
theorem ls_wsX7_counted_0 : GoodIn wsX7_counted wsX70 := goodIn_sub (fun _ h => (List.mem_cons_of_mem _ (List.mem_append_right _ h))) (by decide +kernel)
set_option maxRecDepth 20000 in
theorem ggX7_counted_X7_sumOf : GoodIn wsX7_counted wsX7_sumOf := (gi_cons (lg_wsX7_counted_0 _ (List.mem_of_getElem? (i := 6) rfl)) (goodIn_app (gi_cons (lg_wsX7_counted_0 _ (List.mem_of_getElem? (i := 0) rfl)) gi_nil) ls_wsX7_counted_0))
set_option maxRecDepth 20000 in
theorem gX7_counted_X7_sumOf : GoodIn wsX7_counted (wsV RX7 242 RX7 yX7_sumOf wsX7_sumOf) := goodIn_app (gi_cons (lg_wsX7_counted_0 _ (List.mem_of_getElem? (i := 2) rfl)) (gi_cons (lg_wsX7_counted_0 _ (List.mem_of_getElem? (i := 3) rfl)) (gi_cons (lg_wsX7_counted_0 _ (List.mem_of_getElem? (i := 4) rfl)) (gi_cons (lg_wsX7_counted_0 _ (List.mem_of_getElem? (i := 5) rfl)) gi_nil)))) ggX7_counted_X7_sumOf
set_option maxRecDepth 20000 in
theorem ggX7_counted_X7_tunnels : GoodIn wsX7_counted wsX7_tunnels := (gi_cons (lg_wsX7_counted_0 _ (List.mem_of_getElem? (i := 10) rfl)) (goodIn_app (gi_cons (lg_wsX7_counted_0 _ (List.mem_of_getElem? (i := 0) rfl)) gi_nil) ls_wsX7_counted_0))
set_option maxRecDepth 20000 in
theorem gX7_counted_X7_tunnels : GoodIn wsX7_counted (wsV RX7 194 RX7 yX7_tunnels wsX7_tunnels) := goodIn_app (gi_cons (lg_wsX7_counted_0 _ (List.mem_of_getElem? (i := 7) rfl)) (gi_cons (lg_wsX7_counted_0 _ (List.mem_of_getElem? (i := 8) rfl)) (gi_cons (lg_wsX7_counted_0 _ (List.mem_of_getElem? (i := 9) rfl)) (gi_cons (lg_wsX7_counted_0 _ (List.mem_of_getElem? (i := 5) rfl)) gi_nil)))) ggX7_counted_X7_tunnels
set_option maxRecDepth 20000 in
theorem ggX7_counted_X7_hollow : GoodIn wsX7_counted wsX7_hollow := (gi_cons (lg_wsX7_counted_0 _ (List.mem_of_getElem? (i := 14) rfl)) (goodIn_app (gi_cons (lg_wsX7_counted_0 _ (List.mem_of_getElem? (i := 15) rfl)) (gi_cons (lg_wsX7_counted_0 _ (List.mem_of_getElem? (i := 16) rfl)) (gi_cons (lg_wsX7_counted_0 _ (List.mem_of_getElem? (i := 17) rfl)) (gi_cons (lg_wsX7_counted_0 _ (List.mem_of_getElem? (i := 18) rfl)) (gi_cons (lg_wsX7_counted_0 _ (List.mem_of_getElem? (i := 5) rfl)) (gi_cons (lg_wsX7_counted_0 _ (List.mem_of_getElem? (i := 19) rfl)) (gi_cons (lg_wsX7_counted_0 _ (List.mem_of_getElem? (i := 0) rfl)) (gi_cons (lg_wsX7_counted_0 _ (List.mem_of_getElem? (i := 20) rfl)) (gi_cons (lg_wsX7_counted_0 _ (List.mem_of_getElem? (i := 21) rfl)) (gi_cons (lg_wsX7_counted_0 _ (List.mem_of_getElem? (i := 22) rfl)) (gi_cons (lg_wsX7_counted_0 _ (List.mem_of_getElem? (i := 23) rfl)) (gi_cons (lg_wsX7_counted_1 _ (List.mem_of_getElem? (i := 0) rfl)) (gi_cons (lg_wsX7_counted_1 _ (List.mem_of_getElem? (i := 1) rfl)) (gi_cons (lg_wsX7_counted_1 _ (List.mem_of_getElem? (i := 2) rfl)) gi_nil)))))))))))))) ls_wsX7_counted_0))
set_option maxRecDepth 20000 in
theorem gX7_counted_X7_hollow : GoodIn wsX7_counted (wsV RX7 245 RX7 yX7_hollow wsX7_hollow) := goodIn_app (gi_cons (lg_wsX7_counted_0 _ (List.mem_of_getElem? (i := 11) rfl)) (gi_cons (lg_wsX7_counted_0 _ (List.mem_of_getElem? (i := 12) rfl)) (gi_cons (lg_wsX7_counted_0 _ (List.mem_of_getElem? (i := 13) rfl)) (gi_cons (lg_wsX7_counted_0 _ (List.mem_of_getElem? (i := 5) rfl)) gi_nil)))) ggX7_counted_X7_hollow
set_option maxRecDepth 20000 in
theorem ggX7_counted_X7_traps : GoodIn wsX7_counted wsX7_traps := (gi_cons (lg_wsX7_counted_1 _ (List.mem_of_getElem? (i := 6) rfl)) (goodIn_app (gi_cons (lg_wsX7_counted_0 _ (List.mem_of_getElem? (i := 0) rfl)) gi_nil) ls_wsX7_counted_0))
set_option maxRecDepth 20000 in
theorem gX7_counted_X7_traps : GoodIn wsX7_counted (wsV RX7 138 RX7 yX7_traps wsX7_traps) := goodIn_app (gi_cons (lg_wsX7_counted_1 _ (List.mem_of_getElem? (i := 3) rfl)) (gi_cons (lg_wsX7_counted_1 _ (List.mem_of_getElem? (i := 4) rfl)) (gi_cons (lg_wsX7_counted_1 _ (List.mem_of_getElem? (i := 5) rfl)) (gi_cons (lg_wsX7_counted_0 _ (List.mem_of_getElem? (i := 5) rfl)) gi_nil)))) ggX7_counted_X7_traps
set_option maxRecDepth 20000 in
theorem ggX7_counted_X7_groups : GoodIn wsX7_counted wsX7_groups := (gi_cons (lg_wsX7_counted_1 _ (List.mem_of_getElem? (i := 10) rfl)) (goodIn_app (gi_cons (lg_wsX7_counted_1 _ (List.mem_of_getElem? (i := 11) rfl)) (gi_cons (lg_wsX7_counted_1 _ (List.mem_of_getElem? (i := 12) rfl)) (gi_cons (lg_wsX7_counted_1 _ (List.mem_of_getElem? (i := 13) rfl)) (gi_cons (lg_wsX7_counted_1 _ (List.mem_of_getElem? (i := 14) rfl)) (gi_cons (lg_wsX7_counted_0 _ (List.mem_of_getElem? (i := 5) rfl)) (gi_cons (lg_wsX7_counted_1 _ (List.mem_of_getElem? (i := 15) rfl)) (gi_cons (lg_wsX7_counted_0 _ (List.mem_of_getElem? (i := 0) rfl)) (gi_cons (lg_wsX7_counted_1 _ (List.mem_of_getElem? (i := 16) rfl)) (gi_cons (lg_wsX7_counted_1 _ (List.mem_of_getElem? (i := 17) rfl)) (gi_cons (lg_wsX7_counted_1 _ (List.mem_of_getElem? (i := 18) rfl)) (gi_cons (lg_wsX7_counted_1 _ (List.mem_of_getElem? (i := 19) rfl)) (gi_cons (lg_wsX7_counted_0 _ (List.mem_of_getElem? (i := 20) rfl)) (gi_cons (lg_wsX7_counted_0 _ (List.mem_of_getElem? (i := 21) rfl)) (gi_cons (lg_wsX7_counted_0 _ (List.mem_of_getElem? (i := 22) rfl)) (gi_cons (lg_wsX7_counted_0 _ (List.mem_of_getElem? (i := 23) rfl)) (gi_cons (lg_wsX7_counted_1 _ (List.mem_of_getElem? (i := 20) rfl)) (gi_cons (lg_wsX7_counted_1 _ (List.mem_of_getElem? (i := 21) rfl)) (gi_cons (lg_wsX7_counted_1 _ (List.mem_of_getElem? (i := 22) rfl)) (gi_cons (lg_wsX7_counted_1 _ (List.mem_of_getElem? (i := 23) rfl)) gi_nil))))))))))))))))))) ls_wsX7_counted_0))
set_option maxRecDepth 20000 in
theorem gX7_counted_X7_groups : GoodIn wsX7_counted (wsV RX7 248 RX7 yX7_groups wsX7_groups) := goodIn_app (gi_cons (lg_wsX7_counted_1 _ (List.mem_of_getElem? (i := 7) rfl)) (gi_cons (lg_wsX7_counted_1 _ (List.mem_of_getElem? (i := 8) rfl)) (gi_cons (lg_wsX7_counted_1 _ (List.mem_of_getElem? (i := 9) rfl)) (gi_cons (lg_wsX7_counted_0 _ (List.mem_of_getElem? (i := 5) rfl)) gi_nil)))) ggX7_counted_X7_groups
theorem dX7_counted_0 : decode cX7_counted 0 = .ok (.iload_n 1, 1) := by decide +kernel
theorem dX7_counted_1 : decode cX7_counted 1 = .ok (.tableswitch 140 0 13 #[71, 71, 71, 78, 85, 90, 95, 103, 108, 115, 115, 115, 127, 132], 71) := by decide +kernel
theorem dX7_counted_72 : decode cX7_counted 72 = .ok (.aload_n 0, 1) := by decide +kernel
theorem dX7_counted_73 : decode cX7_counted 73 = .ok (.getfield 7, 3) := by decide +kernel
theorem dX7_counted_76 : decode cX7_counted 76 = .ok (.iload_n 1, 1) := by decide +kernel
theorem dX7_counted_77 : decode cX7_counted 77 = .ok (.iaload, 1) := by decide +kernel
theorem dX7_counted_78 : decode cX7_counted 78 = .ok (.ireturn, 1) := by decide +kernel
theorem dX7_counted_79 : decode cX7_counted 79 = .ok (.aload_n 0, 1) := by decide +kernel
theorem dX7_counted_80 : decode cX7_counted 80 = .ok (.bipush 8, 2) := by decide +kernel
theorem dX7_counted_82 : decode cX7_counted 82 = .ok (.invokevirtual 242, 3) := by decide +kernel
theorem dX7_counted_85 : decode cX7_counted 85 = .ok (.ireturn, 1) := by decide +kernel
theorem dX7_counted_86 : decode cX7_counted 86 = .ok (.aload_n 0, 1) := by decide +kernel
theorem dX7_counted_87 : decode cX7_counted 87 = .ok (.invokevirtual 194, 3) := by decide +kernel
theorem dX7_counted_90 : decode cX7_counted 90 = .ok (.ireturn, 1) := by decide +kernel
theorem dX7_counted_91 : decode cX7_counted 91 = .ok (.aload_n 0, 1) := by decide +kernel
theorem dX7_counted_92 : decode cX7_counted 92 = .ok (.invokevirtual 245, 3) := by decide +kernel
theorem dX7_counted_95 : decode cX7_counted 95 = .ok (.ireturn, 1) := by decide +kernel
theorem dX7_counted_96 : decode cX7_counted 96 = .ok (.aload_n 0, 1) := by decide +kernel
theorem dX7_counted_97 : decode cX7_counted 97 = .ok (.sipush 200, 3) := by decide +kernel
theorem dX7_counted_100 : decode cX7_counted 100 = .ok (.invokevirtual 242, 3) := by decide +kernel
theorem dX7_counted_103 : decode cX7_counted 103 = .ok (.ireturn, 1) := by decide +kernel
theorem dX7_counted_104 : decode cX7_counted 104 = .ok (.aload_n 0, 1) := by decide +kernel
theorem dX7_counted_105 : decode cX7_counted 105 = .ok (.invokevirtual 138, 3) := by decide +kernel
theorem dX7_counted_108 : decode cX7_counted 108 = .ok (.ireturn, 1) := by decide +kernel
theorem dX7_counted_109 : decode cX7_counted 109 = .ok (.aload_n 0, 1) := by decide +kernel
theorem dX7_counted_110 : decode cX7_counted 110 = .ok (.bipush 72, 2) := by decide +kernel
theorem dX7_counted_112 : decode cX7_counted 112 = .ok (.invokevirtual 242, 3) := by decide +kernel
theorem dX7_counted_115 : decode cX7_counted 115 = .ok (.ireturn, 1) := by decide +kernel
theorem dX7_counted_116 : decode cX7_counted 116 = .ok (.aload_n 0, 1) := by decide +kernel
theorem dX7_counted_117 : decode cX7_counted 117 = .ok (.getfield 7, 3) := by decide +kernel
theorem dX7_counted_120 : decode cX7_counted 120 = .ok (.iconst 3, 1) := by decide +kernel
theorem dX7_counted_121 : decode cX7_counted 121 = .ok (.iload_n 1, 1) := by decide +kernel
theorem dX7_counted_122 : decode cX7_counted 122 = .ok (.iadd, 1) := by decide +kernel
theorem dX7_counted_123 : decode cX7_counted 123 = .ok (.bipush 9, 2) := by decide +kernel
theorem dX7_counted_125 : decode cX7_counted 125 = .ok (.isub, 1) := by decide +kernel
theorem dX7_counted_126 : decode cX7_counted 126 = .ok (.iaload, 1) := by decide +kernel
theorem dX7_counted_127 : decode cX7_counted 127 = .ok (.ireturn, 1) := by decide +kernel
theorem dX7_counted_128 : decode cX7_counted 128 = .ok (.aload_n 0, 1) := by decide +kernel
theorem dX7_counted_129 : decode cX7_counted 129 = .ok (.invokevirtual 248, 3) := by decide +kernel
theorem dX7_counted_132 : decode cX7_counted 132 = .ok (.ireturn, 1) := by decide +kernel
theorem dX7_counted_133 : decode cX7_counted 133 = .ok (.aload_n 0, 1) := by decide +kernel
theorem dX7_counted_134 : decode cX7_counted 134 = .ok (.getfield 7, 3) := by decide +kernel
theorem dX7_counted_137 : decode cX7_counted 137 = .ok (.bipush 6, 2) := by decide +kernel
theorem dX7_counted_139 : decode cX7_counted 139 = .ok (.iaload, 1) := by decide +kernel
theorem dX7_counted_140 : decode cX7_counted 140 = .ok (.ireturn, 1) := by decide +kernel
theorem dX7_counted_141 : decode cX7_counted 141 = .ok (.aload_n 0, 1) := by decide +kernel
theorem dX7_counted_142 : decode cX7_counted 142 = .ok (.getfield 46, 3) := by decide +kernel
theorem dX7_counted_145 : decode cX7_counted 145 = .ok (.ireturn, 1) := by decide +kernel
theorem lg_wsX7_count_0 : GoodIn wsX7_count wsX7_count_r1 := goodIn_sub (fun _ h => (List.mem_cons_of_mem _ (List.mem_append_left _ (List.mem_append_left _ h)))) (by decide +kernel)
theorem lg_wsX7_count_1 : GoodIn wsX7_count wsX7_count_r2 := goodIn_sub (fun _ h => (List.mem_cons_of_mem _ (List.mem_append_left _ (List.mem_append_right _ (List.mem_append_left _ h))))) (by decide +kernel)
theorem lg_wsX7_count_2 : GoodIn wsX7_count wsX7_count_r3 := goodIn_sub (fun _ h => (List.mem_cons_of_mem _ (List.mem_append_left _ (List.mem_append_right _ (List.mem_append_right _ h))))) (by decide +kernel)
theorem ls_wsX7_count_0 : GoodIn wsX7_count wsX70 := goodIn_sub (fun _ h => (List.mem_cons_of_mem _ (List.mem_append_right _ h))) (by decide +kernel)
set_option maxRecDepth 20000 in
theorem ggX7_count_X7_in : GoodIn wsX7_count wsX7_in := (gi_cons (lg_wsX7_count_0 _ (List.mem_of_getElem? (i := 3) rfl)) gi_nil)
set_option maxRecDepth 20000 in
theorem gX7_count_X7_in : GoodIn wsX7_count (va_wsS RX7 42 yX7_in wsX7_in) := goodIn_app (gi_cons (lg_wsX7_count_0 _ (List.mem_of_getElem? (i := 0) rfl)) (gi_cons (lg_wsX7_count_0 _ (List.mem_of_getElem? (i := 1) rfl)) (gi_cons (lg_wsX7_count_0 _ (List.mem_of_getElem? (i := 2) rfl)) gi_nil))) ggX7_count_X7_in
set_option maxRecDepth 20000 in
theorem ggX7_count_X7_holds : GoodIn wsX7_count wsX7_holds := (gi_cons (lg_wsX7_count_0 _ (List.mem_of_getElem? (i := 7) rfl)) (goodIn_app (gi_cons (lg_wsX7_count_0 _ (List.mem_of_getElem? (i := 8) rfl)) gi_nil) ls_wsX7_count_0))
set_option maxRecDepth 20000 in
theorem gX7_count_X7_holds : GoodIn wsX7_count (wsV RX7 123 RX7 yX7_holds wsX7_holds) := goodIn_app (gi_cons (lg_wsX7_count_0 _ (List.mem_of_getElem? (i := 4) rfl)) (gi_cons (lg_wsX7_count_0 _ (List.mem_of_getElem? (i := 5) rfl)) (gi_cons (lg_wsX7_count_0 _ (List.mem_of_getElem? (i := 6) rfl)) (gi_cons (lg_wsX7_count_0 _ (List.mem_of_getElem? (i := 2) rfl)) gi_nil)))) ggX7_count_X7_holds
set_option maxRecDepth 20000 in
theorem ggX7_count_X7_counted : GoodIn wsX7_count wsX7_counted := (gi_cons (lg_wsX7_count_0 _ (List.mem_of_getElem? (i := 12) rfl)) (goodIn_app (goodIn_app (gi_cons (lg_wsX7_count_0 _ (List.mem_of_getElem? (i := 13) rfl)) (gi_cons (lg_wsX7_count_0 _ (List.mem_of_getElem? (i := 14) rfl)) (gi_cons (lg_wsX7_count_0 _ (List.mem_of_getElem? (i := 15) rfl)) (gi_cons (lg_wsX7_count_0 _ (List.mem_of_getElem? (i := 16) rfl)) (gi_cons (lg_wsX7_count_0 _ (List.mem_of_getElem? (i := 17) rfl)) (gi_cons (lg_wsX7_count_0 _ (List.mem_of_getElem? (i := 2) rfl)) (gi_cons (lg_wsX7_count_0 _ (List.mem_of_getElem? (i := 18) rfl)) (gi_cons (lg_wsX7_count_0 _ (List.mem_of_getElem? (i := 19) rfl)) (gi_cons (lg_wsX7_count_0 _ (List.mem_of_getElem? (i := 20) rfl)) (gi_cons (lg_wsX7_count_0 _ (List.mem_of_getElem? (i := 21) rfl)) (gi_cons (lg_wsX7_count_0 _ (List.mem_of_getElem? (i := 22) rfl)) (gi_cons (lg_wsX7_count_0 _ (List.mem_of_getElem? (i := 23) rfl)) (gi_cons (lg_wsX7_count_1 _ (List.mem_of_getElem? (i := 0) rfl)) (gi_cons (lg_wsX7_count_1 _ (List.mem_of_getElem? (i := 1) rfl)) (gi_cons (lg_wsX7_count_1 _ (List.mem_of_getElem? (i := 2) rfl)) (gi_cons (lg_wsX7_count_1 _ (List.mem_of_getElem? (i := 3) rfl)) (gi_cons (lg_wsX7_count_1 _ (List.mem_of_getElem? (i := 4) rfl)) (gi_cons (lg_wsX7_count_1 _ (List.mem_of_getElem? (i := 5) rfl)) (gi_cons (lg_wsX7_count_1 _ (List.mem_of_getElem? (i := 6) rfl)) (gi_cons (lg_wsX7_count_1 _ (List.mem_of_getElem? (i := 7) rfl)) (gi_cons (lg_wsX7_count_1 _ (List.mem_of_getElem? (i := 8) rfl)) (gi_cons (lg_wsX7_count_1 _ (List.mem_of_getElem? (i := 9) rfl)) (gi_cons (lg_wsX7_count_1 _ (List.mem_of_getElem? (i := 10) rfl)) (gi_cons (lg_wsX7_count_1 _ (List.mem_of_getElem? (i := 11) rfl)) gi_nil)))))))))))))))))))))))) (gi_cons (lg_wsX7_count_1 _ (List.mem_of_getElem? (i := 12) rfl)) (gi_cons (lg_wsX7_count_1 _ (List.mem_of_getElem? (i := 13) rfl)) (gi_cons (lg_wsX7_count_1 _ (List.mem_of_getElem? (i := 14) rfl)) (gi_cons (lg_wsX7_count_1 _ (List.mem_of_getElem? (i := 15) rfl)) (gi_cons (lg_wsX7_count_1 _ (List.mem_of_getElem? (i := 16) rfl)) (gi_cons (lg_wsX7_count_1 _ (List.mem_of_getElem? (i := 17) rfl)) (gi_cons (lg_wsX7_count_1 _ (List.mem_of_getElem? (i := 18) rfl)) (gi_cons (lg_wsX7_count_1 _ (List.mem_of_getElem? (i := 19) rfl)) (gi_cons (lg_wsX7_count_1 _ (List.mem_of_getElem? (i := 20) rfl)) (gi_cons (lg_wsX7_count_1 _ (List.mem_of_getElem? (i := 21) rfl)) (gi_cons (lg_wsX7_count_1 _ (List.mem_of_getElem? (i := 22) rfl)) (gi_cons (lg_wsX7_count_1 _ (List.mem_of_getElem? (i := 23) rfl)) (gi_cons (lg_wsX7_count_2 _ (List.mem_of_getElem? (i := 0) rfl)) (gi_cons (lg_wsX7_count_2 _ (List.mem_of_getElem? (i := 1) rfl)) (gi_cons (lg_wsX7_count_2 _ (List.mem_of_getElem? (i := 2) rfl)) (gi_cons (lg_wsX7_count_2 _ (List.mem_of_getElem? (i := 3) rfl)) (gi_cons (lg_wsX7_count_2 _ (List.mem_of_getElem? (i := 4) rfl)) (gi_cons (lg_wsX7_count_2 _ (List.mem_of_getElem? (i := 5) rfl)) (gi_cons (lg_wsX7_count_2 _ (List.mem_of_getElem? (i := 6) rfl)) (gi_cons (lg_wsX7_count_2 _ (List.mem_of_getElem? (i := 7) rfl)) (gi_cons (lg_wsX7_count_2 _ (List.mem_of_getElem? (i := 8) rfl)) (gi_cons (lg_wsX7_count_2 _ (List.mem_of_getElem? (i := 9) rfl)) (gi_cons (lg_wsX7_count_2 _ (List.mem_of_getElem? (i := 10) rfl)) (gi_cons (lg_wsX7_count_2 _ (List.mem_of_getElem? (i := 11) rfl)) gi_nil))))))))))))))))))))))))) ls_wsX7_count_0))
set_option maxRecDepth 20000 in
theorem gX7_count_X7_counted : GoodIn wsX7_count (wsV RX7 251 RX7 yX7_counted wsX7_counted) := goodIn_app (gi_cons (lg_wsX7_count_0 _ (List.mem_of_getElem? (i := 9) rfl)) (gi_cons (lg_wsX7_count_0 _ (List.mem_of_getElem? (i := 10) rfl)) (gi_cons (lg_wsX7_count_0 _ (List.mem_of_getElem? (i := 11) rfl)) (gi_cons (lg_wsX7_count_0 _ (List.mem_of_getElem? (i := 2) rfl)) gi_nil)))) ggX7_count_X7_counted
theorem dX7_count_0 : decode cX7_count 0 = .ok (.aload_n 0, 1) := by decide +kernel
theorem dX7_count_1 : decode cX7_count 1 = .ok (.iload_n 1, 1) := by decide +kernel
theorem dX7_count_2 : decode cX7_count 2 = .ok (.iconst 0, 1) := by decide +kernel
theorem dX7_count_3 : decode cX7_count 3 = .ok (.bipush 14, 2) := by decide +kernel
theorem dX7_count_5 : decode cX7_count 5 = .ok (.invokestatic 42, 3) := by decide +kernel
theorem dX7_count_8 : decode cX7_count 8 = .ok (.ifCond .eq 7, 3) := by decide +kernel
theorem dX7_count_11 : decode cX7_count 11 = .ok (.iconst 0, 1) := by decide +kernel
theorem dX7_count_12 : decode cX7_count 12 = .ok (.goto 4, 3) := by decide +kernel
theorem dX7_count_15 : decode cX7_count 15 = .ok (.iconst 1, 1) := by decide +kernel
theorem dX7_count_16 : decode cX7_count 16 = .ok (.invokevirtual 123, 3) := by decide +kernel
theorem dX7_count_19 : decode cX7_count 19 = .ok (.ifCond .eq 11, 3) := by decide +kernel
theorem dX7_count_22 : decode cX7_count 22 = .ok (.aload_n 0, 1) := by decide +kernel
theorem dX7_count_23 : decode cX7_count 23 = .ok (.iload_n 1, 1) := by decide +kernel
theorem dX7_count_24 : decode cX7_count 24 = .ok (.invokevirtual 251, 3) := by decide +kernel
theorem dX7_count_27 : decode cX7_count 27 = .ok (.goto 4, 3) := by decide +kernel
theorem dX7_count_30 : decode cX7_count 30 = .ok (.iconst 0, 1) := by decide +kernel
theorem dX7_count_31 : decode cX7_count 31 = .ok (.ireturn, 1) := by decide +kernel
theorem lg_wsX7_fewestTo_0 : GoodIn wsX7_fewestTo ([.fieldLink RX7 35 "MolesLawnModel" "away" "[I", .methodLink RX7 239 yX7_layAway, .instanceMethod yX7_layAway, .selects RX7 yX7_layAway yX7_layAway, .initialized RX7, .code yX7_layAway cX7_layAway 7 none, .fieldLink RX7 7 "MolesLawnModel" "s" "[I", .methodLink RX7 92 yX7_hasMound, .instanceMethod yX7_hasMound, .selects RX7 yX7_hasMound yX7_hasMound, .code yX7_hasMound cX7_hasMound 2 (some .boolean), .methodLink RX7 53 yX7_tuftAt, .instanceMethod yX7_tuftAt, .selects RX7 yX7_tuftAt yX7_tuftAt, .code yX7_tuftAt cX7_tuftAt 2 (some .int), .methodLink RX7 49 yX7_endFrom, .instanceMethod yX7_endFrom, .selects RX7 yX7_endFrom yX7_endFrom, .code yX7_endFrom cX7_endFrom 3 (some .int)] : List Cond) := goodIn_sub (fun _ h => (List.mem_cons_of_mem _ (List.mem_append_left _ h))) (by decide +kernel)
theorem ls_wsX7_fewestTo_0 : GoodIn wsX7_fewestTo wsX70 := goodIn_sub (fun _ h => (List.mem_cons_of_mem _ (List.mem_append_right _ h))) (by decide +kernel)
set_option maxRecDepth 20000 in
theorem ggX7_fewestTo_X7_layAway : GoodIn wsX7_fewestTo wsX7_layAway := (gi_cons (lg_wsX7_fewestTo_0 _ (List.mem_of_getElem? (i := 5) rfl)) (goodIn_app (gi_cons (lg_wsX7_fewestTo_0 _ (List.mem_of_getElem? (i := 0) rfl)) (gi_cons (lg_wsX7_fewestTo_0 _ (List.mem_of_getElem? (i := 6) rfl)) (gi_cons (lg_wsX7_fewestTo_0 _ (List.mem_of_getElem? (i := 7) rfl)) (gi_cons (lg_wsX7_fewestTo_0 _ (List.mem_of_getElem? (i := 8) rfl)) (gi_cons (lg_wsX7_fewestTo_0 _ (List.mem_of_getElem? (i := 9) rfl)) (gi_cons (lg_wsX7_fewestTo_0 _ (List.mem_of_getElem? (i := 4) rfl)) (gi_cons (lg_wsX7_fewestTo_0 _ (List.mem_of_getElem? (i := 10) rfl)) (gi_cons (lg_wsX7_fewestTo_0 _ (List.mem_of_getElem? (i := 11) rfl)) (gi_cons (lg_wsX7_fewestTo_0 _ (List.mem_of_getElem? (i := 12) rfl)) (gi_cons (lg_wsX7_fewestTo_0 _ (List.mem_of_getElem? (i := 13) rfl)) (gi_cons (lg_wsX7_fewestTo_0 _ (List.mem_of_getElem? (i := 14) rfl)) (gi_cons (lg_wsX7_fewestTo_0 _ (List.mem_of_getElem? (i := 15) rfl)) (gi_cons (lg_wsX7_fewestTo_0 _ (List.mem_of_getElem? (i := 16) rfl)) (gi_cons (lg_wsX7_fewestTo_0 _ (List.mem_of_getElem? (i := 17) rfl)) (gi_cons (lg_wsX7_fewestTo_0 _ (List.mem_of_getElem? (i := 18) rfl)) gi_nil))))))))))))))) ls_wsX7_fewestTo_0))
set_option maxRecDepth 20000 in
theorem gX7_fewestTo_X7_layAway : GoodIn wsX7_fewestTo (wsV RX7 239 RX7 yX7_layAway wsX7_layAway) := goodIn_app (gi_cons (lg_wsX7_fewestTo_0 _ (List.mem_of_getElem? (i := 1) rfl)) (gi_cons (lg_wsX7_fewestTo_0 _ (List.mem_of_getElem? (i := 2) rfl)) (gi_cons (lg_wsX7_fewestTo_0 _ (List.mem_of_getElem? (i := 3) rfl)) (gi_cons (lg_wsX7_fewestTo_0 _ (List.mem_of_getElem? (i := 4) rfl)) gi_nil)))) ggX7_fewestTo_X7_layAway
set_option maxRecDepth 20000 in
theorem ggX7_fewestTo_X7_hasMound : GoodIn wsX7_fewestTo wsX7_hasMound := (gi_cons (lg_wsX7_fewestTo_0 _ (List.mem_of_getElem? (i := 10) rfl)) (goodIn_app (gi_cons (lg_wsX7_fewestTo_0 _ (List.mem_of_getElem? (i := 6) rfl)) gi_nil) ls_wsX7_fewestTo_0))
set_option maxRecDepth 20000 in
theorem gX7_fewestTo_X7_hasMound : GoodIn wsX7_fewestTo (wsV RX7 92 RX7 yX7_hasMound wsX7_hasMound) := goodIn_app (gi_cons (lg_wsX7_fewestTo_0 _ (List.mem_of_getElem? (i := 7) rfl)) (gi_cons (lg_wsX7_fewestTo_0 _ (List.mem_of_getElem? (i := 8) rfl)) (gi_cons (lg_wsX7_fewestTo_0 _ (List.mem_of_getElem? (i := 9) rfl)) (gi_cons (lg_wsX7_fewestTo_0 _ (List.mem_of_getElem? (i := 4) rfl)) gi_nil)))) ggX7_fewestTo_X7_hasMound
theorem dX7_fewestTo_0 : decode cX7_fewestTo 0 = .ok (.aload_n 0, 1) := by decide +kernel
theorem dX7_fewestTo_1 : decode cX7_fewestTo 1 = .ok (.iload_n 1, 1) := by decide +kernel
theorem dX7_fewestTo_2 : decode cX7_fewestTo 2 = .ok (.invokevirtual 239, 3) := by decide +kernel
theorem dX7_fewestTo_5 : decode cX7_fewestTo 5 = .ok (.aload_n 0, 1) := by decide +kernel
theorem dX7_fewestTo_6 : decode cX7_fewestTo 6 = .ok (.iload_n 2, 1) := by decide +kernel
theorem dX7_fewestTo_7 : decode cX7_fewestTo 7 = .ok (.invokevirtual 92, 3) := by decide +kernel
theorem dX7_fewestTo_10 : decode cX7_fewestTo 10 = .ok (.ifCond .eq 24, 3) := by decide +kernel
theorem dX7_fewestTo_13 : decode cX7_fewestTo 13 = .ok (.aload_n 0, 1) := by decide +kernel
theorem dX7_fewestTo_14 : decode cX7_fewestTo 14 = .ok (.getfield 35, 3) := by decide +kernel
theorem dX7_fewestTo_17 : decode cX7_fewestTo 17 = .ok (.iload_n 2, 1) := by decide +kernel
theorem dX7_fewestTo_18 : decode cX7_fewestTo 18 = .ok (.iaload, 1) := by decide +kernel
theorem dX7_fewestTo_19 : decode cX7_fewestTo 19 = .ok (.sipush 1000, 3) := by decide +kernel
theorem dX7_fewestTo_22 : decode cX7_fewestTo 22 = .ok (.if_icmp .ge 12, 3) := by decide +kernel
theorem dX7_fewestTo_25 : decode cX7_fewestTo 25 = .ok (.aload_n 0, 1) := by decide +kernel
theorem dX7_fewestTo_26 : decode cX7_fewestTo 26 = .ok (.getfield 35, 3) := by decide +kernel
theorem dX7_fewestTo_29 : decode cX7_fewestTo 29 = .ok (.iload_n 2, 1) := by decide +kernel
theorem dX7_fewestTo_30 : decode cX7_fewestTo 30 = .ok (.iaload, 1) := by decide +kernel
theorem dX7_fewestTo_31 : decode cX7_fewestTo 31 = .ok (.goto 4, 3) := by decide +kernel
theorem dX7_fewestTo_34 : decode cX7_fewestTo 34 = .ok (.iconst (-1), 1) := by decide +kernel
theorem dX7_fewestTo_35 : decode cX7_fewestTo 35 = .ok (.ireturn, 1) := by decide +kernel
theorem lg_wsX7_joined_0 : GoodIn wsX7_joined wsX7_joined_r1 := goodIn_sub (fun _ h => (List.mem_cons_of_mem _ (List.mem_append_left _ (List.mem_append_left _ h)))) (by decide +kernel)
theorem lg_wsX7_joined_1 : GoodIn wsX7_joined wsX7_joined_r2 := goodIn_sub (fun _ h => (List.mem_cons_of_mem _ (List.mem_append_left _ (List.mem_append_right _ h)))) (by decide +kernel)
theorem ls_wsX7_joined_0 : GoodIn wsX7_joined wsX70 := goodIn_sub (fun _ h => (List.mem_cons_of_mem _ (List.mem_append_right _ h))) (by decide +kernel)
set_option maxRecDepth 20000 in
theorem ggX7_joined_X7_isTuft : GoodIn wsX7_joined wsX7_isTuft := (gi_cons (lg_wsX7_joined_0 _ (List.mem_of_getElem? (i := 3) rfl)) (gi_cons (lg_wsX7_joined_0 _ (List.mem_of_getElem? (i := 4) rfl)) (gi_cons (lg_wsX7_joined_0 _ (List.mem_of_getElem? (i := 5) rfl)) (gi_cons (lg_wsX7_joined_0 _ (List.mem_of_getElem? (i := 2) rfl)) (gi_cons (lg_wsX7_joined_0 _ (List.mem_of_getElem? (i := 6) rfl)) gi_nil)))))
set_option maxRecDepth 20000 in
theorem gX7_joined_X7_isTuft : GoodIn wsX7_joined (va_wsS RX7 120 yX7_isTuft wsX7_isTuft) := goodIn_app (gi_cons (lg_wsX7_joined_0 _ (List.mem_of_getElem? (i := 0) rfl)) (gi_cons (lg_wsX7_joined_0 _ (List.mem_of_getElem? (i := 1) rfl)) (gi_cons (lg_wsX7_joined_0 _ (List.mem_of_getElem? (i := 2) rfl)) gi_nil))) ggX7_joined_X7_isTuft
set_option maxRecDepth 20000 in
theorem ggX7_joined_X7_holds : GoodIn wsX7_joined wsX7_holds := (gi_cons (lg_wsX7_joined_0 _ (List.mem_of_getElem? (i := 10) rfl)) (goodIn_app (gi_cons (lg_wsX7_joined_0 _ (List.mem_of_getElem? (i := 11) rfl)) gi_nil) ls_wsX7_joined_0))
set_option maxRecDepth 20000 in
theorem gX7_joined_X7_holds : GoodIn wsX7_joined (wsV RX7 123 RX7 yX7_holds wsX7_holds) := goodIn_app (gi_cons (lg_wsX7_joined_0 _ (List.mem_of_getElem? (i := 7) rfl)) (gi_cons (lg_wsX7_joined_0 _ (List.mem_of_getElem? (i := 8) rfl)) (gi_cons (lg_wsX7_joined_0 _ (List.mem_of_getElem? (i := 9) rfl)) (gi_cons (lg_wsX7_joined_0 _ (List.mem_of_getElem? (i := 2) rfl)) gi_nil)))) ggX7_joined_X7_holds
set_option maxRecDepth 20000 in
theorem ggX7_joined_X7_fewestTo : GoodIn wsX7_joined wsX7_fewestTo := (gi_cons (lg_wsX7_joined_0 _ (List.mem_of_getElem? (i := 15) rfl)) (goodIn_app (gi_cons (lg_wsX7_joined_0 _ (List.mem_of_getElem? (i := 16) rfl)) (gi_cons (lg_wsX7_joined_0 _ (List.mem_of_getElem? (i := 17) rfl)) (gi_cons (lg_wsX7_joined_0 _ (List.mem_of_getElem? (i := 18) rfl)) (gi_cons (lg_wsX7_joined_0 _ (List.mem_of_getElem? (i := 19) rfl)) (gi_cons (lg_wsX7_joined_0 _ (List.mem_of_getElem? (i := 2) rfl)) (gi_cons (lg_wsX7_joined_0 _ (List.mem_of_getElem? (i := 20) rfl)) (gi_cons (lg_wsX7_joined_0 _ (List.mem_of_getElem? (i := 21) rfl)) (gi_cons (lg_wsX7_joined_0 _ (List.mem_of_getElem? (i := 22) rfl)) (gi_cons (lg_wsX7_joined_0 _ (List.mem_of_getElem? (i := 23) rfl)) (gi_cons (lg_wsX7_joined_1 _ (List.mem_of_getElem? (i := 0) rfl)) (gi_cons (lg_wsX7_joined_1 _ (List.mem_of_getElem? (i := 1) rfl)) (gi_cons (lg_wsX7_joined_1 _ (List.mem_of_getElem? (i := 2) rfl)) (gi_cons (lg_wsX7_joined_1 _ (List.mem_of_getElem? (i := 3) rfl)) (gi_cons (lg_wsX7_joined_1 _ (List.mem_of_getElem? (i := 4) rfl)) (gi_cons (lg_wsX7_joined_1 _ (List.mem_of_getElem? (i := 5) rfl)) (gi_cons (lg_wsX7_joined_1 _ (List.mem_of_getElem? (i := 6) rfl)) (gi_cons (lg_wsX7_joined_1 _ (List.mem_of_getElem? (i := 7) rfl)) (gi_cons (lg_wsX7_joined_1 _ (List.mem_of_getElem? (i := 8) rfl)) (gi_cons (lg_wsX7_joined_1 _ (List.mem_of_getElem? (i := 9) rfl)) gi_nil))))))))))))))))))) ls_wsX7_joined_0))
set_option maxRecDepth 20000 in
theorem gX7_joined_X7_fewestTo : GoodIn wsX7_joined (wsV RX7 254 RX7 yX7_fewestTo wsX7_fewestTo) := goodIn_app (gi_cons (lg_wsX7_joined_0 _ (List.mem_of_getElem? (i := 12) rfl)) (gi_cons (lg_wsX7_joined_0 _ (List.mem_of_getElem? (i := 13) rfl)) (gi_cons (lg_wsX7_joined_0 _ (List.mem_of_getElem? (i := 14) rfl)) (gi_cons (lg_wsX7_joined_0 _ (List.mem_of_getElem? (i := 2) rfl)) gi_nil)))) ggX7_joined_X7_fewestTo
theorem dX7_joined_0 : decode cX7_joined 0 = .ok (.aload_n 0, 1) := by decide +kernel
theorem dX7_joined_1 : decode cX7_joined 1 = .ok (.iload_n 1, 1) := by decide +kernel
theorem dX7_joined_2 : decode cX7_joined 2 = .ok (.invokestatic 120, 3) := by decide +kernel
theorem dX7_joined_5 : decode cX7_joined 5 = .ok (.ifCond .eq 14, 3) := by decide +kernel
theorem dX7_joined_8 : decode cX7_joined 8 = .ok (.iload_n 2, 1) := by decide +kernel
theorem dX7_joined_9 : decode cX7_joined 9 = .ok (.invokestatic 120, 3) := by decide +kernel
theorem dX7_joined_12 : decode cX7_joined 12 = .ok (.ifCond .eq 7, 3) := by decide +kernel
theorem dX7_joined_15 : decode cX7_joined 15 = .ok (.iconst 0, 1) := by decide +kernel
theorem dX7_joined_16 : decode cX7_joined 16 = .ok (.goto 4, 3) := by decide +kernel
theorem dX7_joined_19 : decode cX7_joined 19 = .ok (.iconst 1, 1) := by decide +kernel
theorem dX7_joined_20 : decode cX7_joined 20 = .ok (.invokevirtual 123, 3) := by decide +kernel
theorem dX7_joined_23 : decode cX7_joined 23 = .ok (.ifCond .eq 17, 3) := by decide +kernel
theorem dX7_joined_26 : decode cX7_joined 26 = .ok (.aload_n 0, 1) := by decide +kernel
theorem dX7_joined_27 : decode cX7_joined 27 = .ok (.iload_n 1, 1) := by decide +kernel
theorem dX7_joined_28 : decode cX7_joined 28 = .ok (.iload_n 2, 1) := by decide +kernel
theorem dX7_joined_29 : decode cX7_joined 29 = .ok (.invokevirtual 254, 3) := by decide +kernel
theorem dX7_joined_32 : decode cX7_joined 32 = .ok (.iconst (-1), 1) := by decide +kernel
theorem dX7_joined_33 : decode cX7_joined 33 = .ok (.if_icmp .eq 7, 3) := by decide +kernel
theorem dX7_joined_36 : decode cX7_joined 36 = .ok (.iconst 1, 1) := by decide +kernel
theorem dX7_joined_37 : decode cX7_joined 37 = .ok (.goto 4, 3) := by decide +kernel
theorem dX7_joined_40 : decode cX7_joined 40 = .ok (.iconst 0, 1) := by decide +kernel
theorem dX7_joined_41 : decode cX7_joined 41 = .ok (.ireturn, 1) := by decide +kernel
theorem lg_wsX7_fewest_0 : GoodIn wsX7_fewest wsX7_fewest_r1 := goodIn_sub (fun _ h => (List.mem_cons_of_mem _ (List.mem_append_left _ (List.mem_append_left _ h)))) (by decide +kernel)
theorem lg_wsX7_fewest_1 : GoodIn wsX7_fewest wsX7_fewest_r2 := goodIn_sub (fun _ h => (List.mem_cons_of_mem _ (List.mem_append_left _ (List.mem_append_right _ h)))) (by decide +kernel)
theorem ls_wsX7_fewest_0 : GoodIn wsX7_fewest wsX70 := goodIn_sub (fun _ h => (List.mem_cons_of_mem _ (List.mem_append_right _ h))) (by decide +kernel)
set_option maxRecDepth 20000 in
theorem ggX7_fewest_X7_isTuft : GoodIn wsX7_fewest wsX7_isTuft := (gi_cons (lg_wsX7_fewest_0 _ (List.mem_of_getElem? (i := 3) rfl)) (gi_cons (lg_wsX7_fewest_0 _ (List.mem_of_getElem? (i := 4) rfl)) (gi_cons (lg_wsX7_fewest_0 _ (List.mem_of_getElem? (i := 5) rfl)) (gi_cons (lg_wsX7_fewest_0 _ (List.mem_of_getElem? (i := 2) rfl)) (gi_cons (lg_wsX7_fewest_0 _ (List.mem_of_getElem? (i := 6) rfl)) gi_nil)))))
set_option maxRecDepth 20000 in
theorem gX7_fewest_X7_isTuft : GoodIn wsX7_fewest (va_wsS RX7 120 yX7_isTuft wsX7_isTuft) := goodIn_app (gi_cons (lg_wsX7_fewest_0 _ (List.mem_of_getElem? (i := 0) rfl)) (gi_cons (lg_wsX7_fewest_0 _ (List.mem_of_getElem? (i := 1) rfl)) (gi_cons (lg_wsX7_fewest_0 _ (List.mem_of_getElem? (i := 2) rfl)) gi_nil))) ggX7_fewest_X7_isTuft
set_option maxRecDepth 20000 in
theorem ggX7_fewest_X7_holds : GoodIn wsX7_fewest wsX7_holds := (gi_cons (lg_wsX7_fewest_0 _ (List.mem_of_getElem? (i := 10) rfl)) (goodIn_app (gi_cons (lg_wsX7_fewest_0 _ (List.mem_of_getElem? (i := 11) rfl)) gi_nil) ls_wsX7_fewest_0))
set_option maxRecDepth 20000 in
theorem gX7_fewest_X7_holds : GoodIn wsX7_fewest (wsV RX7 123 RX7 yX7_holds wsX7_holds) := goodIn_app (gi_cons (lg_wsX7_fewest_0 _ (List.mem_of_getElem? (i := 7) rfl)) (gi_cons (lg_wsX7_fewest_0 _ (List.mem_of_getElem? (i := 8) rfl)) (gi_cons (lg_wsX7_fewest_0 _ (List.mem_of_getElem? (i := 9) rfl)) (gi_cons (lg_wsX7_fewest_0 _ (List.mem_of_getElem? (i := 2) rfl)) gi_nil)))) ggX7_fewest_X7_holds
set_option maxRecDepth 20000 in
theorem ggX7_fewest_X7_fewestTo : GoodIn wsX7_fewest wsX7_fewestTo := (gi_cons (lg_wsX7_fewest_0 _ (List.mem_of_getElem? (i := 15) rfl)) (goodIn_app (gi_cons (lg_wsX7_fewest_0 _ (List.mem_of_getElem? (i := 16) rfl)) (gi_cons (lg_wsX7_fewest_0 _ (List.mem_of_getElem? (i := 17) rfl)) (gi_cons (lg_wsX7_fewest_0 _ (List.mem_of_getElem? (i := 18) rfl)) (gi_cons (lg_wsX7_fewest_0 _ (List.mem_of_getElem? (i := 19) rfl)) (gi_cons (lg_wsX7_fewest_0 _ (List.mem_of_getElem? (i := 2) rfl)) (gi_cons (lg_wsX7_fewest_0 _ (List.mem_of_getElem? (i := 20) rfl)) (gi_cons (lg_wsX7_fewest_0 _ (List.mem_of_getElem? (i := 21) rfl)) (gi_cons (lg_wsX7_fewest_0 _ (List.mem_of_getElem? (i := 22) rfl)) (gi_cons (lg_wsX7_fewest_0 _ (List.mem_of_getElem? (i := 23) rfl)) (gi_cons (lg_wsX7_fewest_1 _ (List.mem_of_getElem? (i := 0) rfl)) (gi_cons (lg_wsX7_fewest_1 _ (List.mem_of_getElem? (i := 1) rfl)) (gi_cons (lg_wsX7_fewest_1 _ (List.mem_of_getElem? (i := 2) rfl)) (gi_cons (lg_wsX7_fewest_1 _ (List.mem_of_getElem? (i := 3) rfl)) (gi_cons (lg_wsX7_fewest_1 _ (List.mem_of_getElem? (i := 4) rfl)) (gi_cons (lg_wsX7_fewest_1 _ (List.mem_of_getElem? (i := 5) rfl)) (gi_cons (lg_wsX7_fewest_1 _ (List.mem_of_getElem? (i := 6) rfl)) (gi_cons (lg_wsX7_fewest_1 _ (List.mem_of_getElem? (i := 7) rfl)) (gi_cons (lg_wsX7_fewest_1 _ (List.mem_of_getElem? (i := 8) rfl)) (gi_cons (lg_wsX7_fewest_1 _ (List.mem_of_getElem? (i := 9) rfl)) gi_nil))))))))))))))))))) ls_wsX7_fewest_0))
set_option maxRecDepth 20000 in
theorem gX7_fewest_X7_fewestTo : GoodIn wsX7_fewest (wsV RX7 254 RX7 yX7_fewestTo wsX7_fewestTo) := goodIn_app (gi_cons (lg_wsX7_fewest_0 _ (List.mem_of_getElem? (i := 12) rfl)) (gi_cons (lg_wsX7_fewest_0 _ (List.mem_of_getElem? (i := 13) rfl)) (gi_cons (lg_wsX7_fewest_0 _ (List.mem_of_getElem? (i := 14) rfl)) (gi_cons (lg_wsX7_fewest_0 _ (List.mem_of_getElem? (i := 2) rfl)) gi_nil)))) ggX7_fewest_X7_fewestTo
theorem dX7_fewest_0 : decode cX7_fewest 0 = .ok (.aload_n 0, 1) := by decide +kernel
theorem dX7_fewest_1 : decode cX7_fewest 1 = .ok (.iload_n 1, 1) := by decide +kernel
theorem dX7_fewest_2 : decode cX7_fewest 2 = .ok (.invokestatic 120, 3) := by decide +kernel
theorem dX7_fewest_5 : decode cX7_fewest 5 = .ok (.ifCond .eq 14, 3) := by decide +kernel
theorem dX7_fewest_8 : decode cX7_fewest 8 = .ok (.iload_n 2, 1) := by decide +kernel
theorem dX7_fewest_9 : decode cX7_fewest 9 = .ok (.invokestatic 120, 3) := by decide +kernel
theorem dX7_fewest_12 : decode cX7_fewest 12 = .ok (.ifCond .eq 7, 3) := by decide +kernel
theorem dX7_fewest_15 : decode cX7_fewest 15 = .ok (.iconst 0, 1) := by decide +kernel
theorem dX7_fewest_16 : decode cX7_fewest 16 = .ok (.goto 4, 3) := by decide +kernel
theorem dX7_fewest_19 : decode cX7_fewest 19 = .ok (.iconst 1, 1) := by decide +kernel
theorem dX7_fewest_20 : decode cX7_fewest 20 = .ok (.invokevirtual 123, 3) := by decide +kernel
theorem dX7_fewest_23 : decode cX7_fewest 23 = .ok (.ifCond .eq 12, 3) := by decide +kernel
theorem dX7_fewest_26 : decode cX7_fewest 26 = .ok (.aload_n 0, 1) := by decide +kernel
theorem dX7_fewest_27 : decode cX7_fewest 27 = .ok (.iload_n 1, 1) := by decide +kernel
theorem dX7_fewest_28 : decode cX7_fewest 28 = .ok (.iload_n 2, 1) := by decide +kernel
theorem dX7_fewest_29 : decode cX7_fewest 29 = .ok (.invokevirtual 254, 3) := by decide +kernel
theorem dX7_fewest_32 : decode cX7_fewest 32 = .ok (.goto 4, 3) := by decide +kernel
theorem dX7_fewest_35 : decode cX7_fewest 35 = .ok (.iconst 0, 1) := by decide +kernel
theorem dX7_fewest_36 : decode cX7_fewest 36 = .ok (.ireturn, 1) := by decide +kernel
theorem lg_wsX7_whenDug_0 : GoodIn wsX7_whenDug wsX7_whenDug_r1 := goodIn_sub (fun _ h => (List.mem_cons_of_mem _ (List.mem_append_left _ (List.mem_append_left _ h)))) (by decide +kernel)
theorem lg_wsX7_whenDug_1 : GoodIn wsX7_whenDug wsX7_whenDug_r2 := goodIn_sub (fun _ h => (List.mem_cons_of_mem _ (List.mem_append_left _ (List.mem_append_right _ (List.mem_append_left _ h))))) (by decide +kernel)
theorem lg_wsX7_whenDug_2 : GoodIn wsX7_whenDug wsX7_whenDug_r3 := goodIn_sub (fun _ h => (List.mem_cons_of_mem _ (List.mem_append_left _ (List.mem_append_right _ (List.mem_append_right _ (List.mem_append_left _ h)))))) (by decide +kernel)
theorem lg_wsX7_whenDug_3 : GoodIn wsX7_whenDug wsX7_whenDug_r4 := goodIn_sub (fun _ h => (List.mem_cons_of_mem _ (List.mem_append_left _ (List.mem_append_right _ (List.mem_append_right _ (List.mem_append_right _ h)))))) (by decide +kernel)
theorem ls_wsX7_whenDug_0 : GoodIn wsX7_whenDug wsX70 := goodIn_sub (fun _ h => (List.mem_cons_of_mem _ (List.mem_append_right _ h))) (by decide +kernel)
set_option maxRecDepth 20000 in
theorem ggX7_whenDug_X7_putAside : GoodIn wsX7_whenDug wsX7_putAside := (gi_cons (lg_wsX7_whenDug_0 _ (List.mem_of_getElem? (i := 5) rfl)) (goodIn_app (gi_cons (lg_wsX7_whenDug_0 _ (List.mem_of_getElem? (i := 6) rfl)) (gi_cons (lg_wsX7_whenDug_0 _ (List.mem_of_getElem? (i := 0) rfl)) gi_nil)) ls_wsX7_whenDug_0))
set_option maxRecDepth 20000 in
theorem gX7_whenDug_X7_putAside : GoodIn wsX7_whenDug (wsV RX7 257 RX7 yX7_putAside wsX7_putAside) := goodIn_app (gi_cons (lg_wsX7_whenDug_0 _ (List.mem_of_getElem? (i := 1) rfl)) (gi_cons (lg_wsX7_whenDug_0 _ (List.mem_of_getElem? (i := 2) rfl)) (gi_cons (lg_wsX7_whenDug_0 _ (List.mem_of_getElem? (i := 3) rfl)) (gi_cons (lg_wsX7_whenDug_0 _ (List.mem_of_getElem? (i := 4) rfl)) gi_nil)))) ggX7_whenDug_X7_putAside
set_option maxRecDepth 20000 in
theorem ggX7_whenDug_X7_dug : GoodIn wsX7_whenDug wsX7_dug := (gi_cons (lg_wsX7_whenDug_0 _ (List.mem_of_getElem? (i := 10) rfl)) (goodIn_app (goodIn_app (gi_cons (lg_wsX7_whenDug_0 _ (List.mem_of_getElem? (i := 0) rfl)) (gi_cons (lg_wsX7_whenDug_0 _ (List.mem_of_getElem? (i := 11) rfl)) (gi_cons (lg_wsX7_whenDug_0 _ (List.mem_of_getElem? (i := 12) rfl)) (gi_cons (lg_wsX7_whenDug_0 _ (List.mem_of_getElem? (i := 4) rfl)) (gi_cons (lg_wsX7_whenDug_0 _ (List.mem_of_getElem? (i := 13) rfl)) (gi_cons (lg_wsX7_whenDug_0 _ (List.mem_of_getElem? (i := 14) rfl)) (gi_cons (lg_wsX7_whenDug_0 _ (List.mem_of_getElem? (i := 15) rfl)) (gi_cons (lg_wsX7_whenDug_0 _ (List.mem_of_getElem? (i := 16) rfl)) (gi_cons (lg_wsX7_whenDug_0 _ (List.mem_of_getElem? (i := 17) rfl)) (gi_cons (lg_wsX7_whenDug_0 _ (List.mem_of_getElem? (i := 18) rfl)) (gi_cons (lg_wsX7_whenDug_0 _ (List.mem_of_getElem? (i := 19) rfl)) (gi_cons (lg_wsX7_whenDug_0 _ (List.mem_of_getElem? (i := 20) rfl)) (gi_cons (lg_wsX7_whenDug_0 _ (List.mem_of_getElem? (i := 21) rfl)) (gi_cons (lg_wsX7_whenDug_0 _ (List.mem_of_getElem? (i := 22) rfl)) (gi_cons (lg_wsX7_whenDug_0 _ (List.mem_of_getElem? (i := 23) rfl)) (gi_cons (lg_wsX7_whenDug_1 _ (List.mem_of_getElem? (i := 0) rfl)) (gi_cons (lg_wsX7_whenDug_1 _ (List.mem_of_getElem? (i := 1) rfl)) (gi_cons (lg_wsX7_whenDug_1 _ (List.mem_of_getElem? (i := 2) rfl)) (gi_cons (lg_wsX7_whenDug_1 _ (List.mem_of_getElem? (i := 3) rfl)) (gi_cons (lg_wsX7_whenDug_1 _ (List.mem_of_getElem? (i := 4) rfl)) (gi_cons (lg_wsX7_whenDug_1 _ (List.mem_of_getElem? (i := 5) rfl)) (gi_cons (lg_wsX7_whenDug_1 _ (List.mem_of_getElem? (i := 6) rfl)) (gi_cons (lg_wsX7_whenDug_1 _ (List.mem_of_getElem? (i := 7) rfl)) (gi_cons (lg_wsX7_whenDug_1 _ (List.mem_of_getElem? (i := 8) rfl)) gi_nil)))))))))))))))))))))))) (goodIn_app (gi_cons (lg_wsX7_whenDug_1 _ (List.mem_of_getElem? (i := 9) rfl)) (gi_cons (lg_wsX7_whenDug_1 _ (List.mem_of_getElem? (i := 10) rfl)) (gi_cons (lg_wsX7_whenDug_1 _ (List.mem_of_getElem? (i := 11) rfl)) (gi_cons (lg_wsX7_whenDug_1 _ (List.mem_of_getElem? (i := 12) rfl)) (gi_cons (lg_wsX7_whenDug_1 _ (List.mem_of_getElem? (i := 13) rfl)) (gi_cons (lg_wsX7_whenDug_1 _ (List.mem_of_getElem? (i := 14) rfl)) (gi_cons (lg_wsX7_whenDug_1 _ (List.mem_of_getElem? (i := 15) rfl)) (gi_cons (lg_wsX7_whenDug_1 _ (List.mem_of_getElem? (i := 16) rfl)) (gi_cons (lg_wsX7_whenDug_1 _ (List.mem_of_getElem? (i := 17) rfl)) (gi_cons (lg_wsX7_whenDug_1 _ (List.mem_of_getElem? (i := 18) rfl)) (gi_cons (lg_wsX7_whenDug_1 _ (List.mem_of_getElem? (i := 19) rfl)) (gi_cons (lg_wsX7_whenDug_1 _ (List.mem_of_getElem? (i := 20) rfl)) (gi_cons (lg_wsX7_whenDug_1 _ (List.mem_of_getElem? (i := 21) rfl)) (gi_cons (lg_wsX7_whenDug_1 _ (List.mem_of_getElem? (i := 22) rfl)) (gi_cons (lg_wsX7_whenDug_1 _ (List.mem_of_getElem? (i := 23) rfl)) (gi_cons (lg_wsX7_whenDug_2 _ (List.mem_of_getElem? (i := 0) rfl)) (gi_cons (lg_wsX7_whenDug_2 _ (List.mem_of_getElem? (i := 1) rfl)) (gi_cons (lg_wsX7_whenDug_2 _ (List.mem_of_getElem? (i := 2) rfl)) (gi_cons (lg_wsX7_whenDug_2 _ (List.mem_of_getElem? (i := 3) rfl)) (gi_cons (lg_wsX7_whenDug_2 _ (List.mem_of_getElem? (i := 4) rfl)) (gi_cons (lg_wsX7_whenDug_2 _ (List.mem_of_getElem? (i := 5) rfl)) (gi_cons (lg_wsX7_whenDug_2 _ (List.mem_of_getElem? (i := 6) rfl)) (gi_cons (lg_wsX7_whenDug_2 _ (List.mem_of_getElem? (i := 7) rfl)) (gi_cons (lg_wsX7_whenDug_2 _ (List.mem_of_getElem? (i := 8) rfl)) gi_nil)))))))))))))))))))))))) (gi_cons (lg_wsX7_whenDug_2 _ (List.mem_of_getElem? (i := 9) rfl)) (gi_cons (lg_wsX7_whenDug_2 _ (List.mem_of_getElem? (i := 10) rfl)) (gi_cons (lg_wsX7_whenDug_2 _ (List.mem_of_getElem? (i := 11) rfl)) (gi_cons (lg_wsX7_whenDug_2 _ (List.mem_of_getElem? (i := 12) rfl)) (gi_cons (lg_wsX7_whenDug_2 _ (List.mem_of_getElem? (i := 13) rfl)) gi_nil))))))) ls_wsX7_whenDug_0))
set_option maxRecDepth 20000 in
theorem gX7_whenDug_X7_dug : GoodIn wsX7_whenDug (wsV RX7 145 RX7 yX7_dug wsX7_dug) := goodIn_app (gi_cons (lg_wsX7_whenDug_0 _ (List.mem_of_getElem? (i := 7) rfl)) (gi_cons (lg_wsX7_whenDug_0 _ (List.mem_of_getElem? (i := 8) rfl)) (gi_cons (lg_wsX7_whenDug_0 _ (List.mem_of_getElem? (i := 9) rfl)) (gi_cons (lg_wsX7_whenDug_0 _ (List.mem_of_getElem? (i := 4) rfl)) gi_nil)))) ggX7_whenDug_X7_dug
set_option maxRecDepth 20000 in
theorem ggX7_whenDug_X7_hollow : GoodIn wsX7_whenDug wsX7_hollow := (gi_cons (lg_wsX7_whenDug_2 _ (List.mem_of_getElem? (i := 17) rfl)) (goodIn_app (gi_cons (lg_wsX7_whenDug_2 _ (List.mem_of_getElem? (i := 18) rfl)) (gi_cons (lg_wsX7_whenDug_2 _ (List.mem_of_getElem? (i := 19) rfl)) (gi_cons (lg_wsX7_whenDug_2 _ (List.mem_of_getElem? (i := 20) rfl)) (gi_cons (lg_wsX7_whenDug_2 _ (List.mem_of_getElem? (i := 21) rfl)) (gi_cons (lg_wsX7_whenDug_0 _ (List.mem_of_getElem? (i := 4) rfl)) (gi_cons (lg_wsX7_whenDug_2 _ (List.mem_of_getElem? (i := 22) rfl)) (gi_cons (lg_wsX7_whenDug_0 _ (List.mem_of_getElem? (i := 0) rfl)) (gi_cons (lg_wsX7_whenDug_1 _ (List.mem_of_getElem? (i := 6) rfl)) (gi_cons (lg_wsX7_whenDug_1 _ (List.mem_of_getElem? (i := 7) rfl)) (gi_cons (lg_wsX7_whenDug_1 _ (List.mem_of_getElem? (i := 8) rfl)) (gi_cons (lg_wsX7_whenDug_1 _ (List.mem_of_getElem? (i := 9) rfl)) (gi_cons (lg_wsX7_whenDug_0 _ (List.mem_of_getElem? (i := 11) rfl)) (gi_cons (lg_wsX7_whenDug_0 _ (List.mem_of_getElem? (i := 12) rfl)) (gi_cons (lg_wsX7_whenDug_0 _ (List.mem_of_getElem? (i := 13) rfl)) gi_nil)))))))))))))) ls_wsX7_whenDug_0))
set_option maxRecDepth 20000 in
theorem gX7_whenDug_X7_hollow : GoodIn wsX7_whenDug (wsV RX7 245 RX7 yX7_hollow wsX7_hollow) := goodIn_app (gi_cons (lg_wsX7_whenDug_2 _ (List.mem_of_getElem? (i := 14) rfl)) (gi_cons (lg_wsX7_whenDug_2 _ (List.mem_of_getElem? (i := 15) rfl)) (gi_cons (lg_wsX7_whenDug_2 _ (List.mem_of_getElem? (i := 16) rfl)) (gi_cons (lg_wsX7_whenDug_0 _ (List.mem_of_getElem? (i := 4) rfl)) gi_nil)))) ggX7_whenDug_X7_hollow
set_option maxRecDepth 20000 in
theorem ggX7_whenDug_X7_putBack : GoodIn wsX7_whenDug wsX7_putBack := (gi_cons (lg_wsX7_whenDug_3 _ (List.mem_of_getElem? (i := 2) rfl)) (goodIn_app (gi_cons (lg_wsX7_whenDug_0 _ (List.mem_of_getElem? (i := 0) rfl)) (gi_cons (lg_wsX7_whenDug_0 _ (List.mem_of_getElem? (i := 6) rfl)) gi_nil)) ls_wsX7_whenDug_0))
set_option maxRecDepth 20000 in
theorem gX7_whenDug_X7_putBack : GoodIn wsX7_whenDug (wsV RX7 260 RX7 yX7_putBack wsX7_putBack) := goodIn_app (gi_cons (lg_wsX7_whenDug_2 _ (List.mem_of_getElem? (i := 23) rfl)) (gi_cons (lg_wsX7_whenDug_3 _ (List.mem_of_getElem? (i := 0) rfl)) (gi_cons (lg_wsX7_whenDug_3 _ (List.mem_of_getElem? (i := 1) rfl)) (gi_cons (lg_wsX7_whenDug_0 _ (List.mem_of_getElem? (i := 4) rfl)) gi_nil)))) ggX7_whenDug_X7_putBack
theorem dX7_whenDug_0 : decode cX7_whenDug 0 = .ok (.aload_n 0, 1) := by decide +kernel
theorem dX7_whenDug_1 : decode cX7_whenDug 1 = .ok (.invokevirtual 257, 3) := by decide +kernel
theorem dX7_whenDug_4 : decode cX7_whenDug 4 = .ok (.aload_n 0, 1) := by decide +kernel
theorem dX7_whenDug_5 : decode cX7_whenDug 5 = .ok (.getfield 7, 3) := by decide +kernel
theorem dX7_whenDug_8 : decode cX7_whenDug 8 = .ok (.iconst 5, 1) := by decide +kernel
theorem dX7_whenDug_9 : decode cX7_whenDug 9 = .ok (.iaload, 1) := by decide +kernel
theorem dX7_whenDug_10 : decode cX7_whenDug 10 = .ok (.istore_n 3, 1) := by decide +kernel
theorem dX7_whenDug_11 : decode cX7_whenDug 11 = .ok (.aload_n 0, 1) := by decide +kernel
theorem dX7_whenDug_12 : decode cX7_whenDug 12 = .ok (.iload_n 1, 1) := by decide +kernel
theorem dX7_whenDug_13 : decode cX7_whenDug 13 = .ok (.invokevirtual 145, 3) := by decide +kernel
theorem dX7_whenDug_16 : decode cX7_whenDug 16 = .ok (.istore 4, 2) := by decide +kernel
theorem dX7_whenDug_18 : decode cX7_whenDug 18 = .ok (.iload_n 2, 1) := by decide +kernel
theorem dX7_whenDug_19 : decode cX7_whenDug 19 = .ok (.ifCond .ne 14, 3) := by decide +kernel
theorem dX7_whenDug_22 : decode cX7_whenDug 22 = .ok (.aload_n 0, 1) := by decide +kernel
theorem dX7_whenDug_23 : decode cX7_whenDug 23 = .ok (.getfield 7, 3) := by decide +kernel
theorem dX7_whenDug_26 : decode cX7_whenDug 26 = .ok (.iconst 5, 1) := by decide +kernel
theorem dX7_whenDug_27 : decode cX7_whenDug 27 = .ok (.iaload, 1) := by decide +kernel
theorem dX7_whenDug_28 : decode cX7_whenDug 28 = .ok (.iload_n 3, 1) := by decide +kernel
theorem dX7_whenDug_29 : decode cX7_whenDug 29 = .ok (.isub, 1) := by decide +kernel
theorem dX7_whenDug_30 : decode cX7_whenDug 30 = .ok (.goto 17, 3) := by decide +kernel
theorem dX7_whenDug_33 : decode cX7_whenDug 33 = .ok (.iload_n 2, 1) := by decide +kernel
theorem dX7_whenDug_34 : decode cX7_whenDug 34 = .ok (.iconst 1, 1) := by decide +kernel
theorem dX7_whenDug_35 : decode cX7_whenDug 35 = .ok (.if_icmp .ne 8, 3) := by decide +kernel
theorem dX7_whenDug_38 : decode cX7_whenDug 38 = .ok (.iload 4, 2) := by decide +kernel
theorem dX7_whenDug_40 : decode cX7_whenDug 40 = .ok (.goto 7, 3) := by decide +kernel
theorem dX7_whenDug_43 : decode cX7_whenDug 43 = .ok (.aload_n 0, 1) := by decide +kernel
theorem dX7_whenDug_44 : decode cX7_whenDug 44 = .ok (.invokevirtual 245, 3) := by decide +kernel
theorem dX7_whenDug_47 : decode cX7_whenDug 47 = .ok (.istore 5, 2) := by decide +kernel
theorem dX7_whenDug_49 : decode cX7_whenDug 49 = .ok (.aload_n 0, 1) := by decide +kernel
theorem dX7_whenDug_50 : decode cX7_whenDug 50 = .ok (.invokevirtual 260, 3) := by decide +kernel
theorem dX7_whenDug_53 : decode cX7_whenDug 53 = .ok (.iload 5, 2) := by decide +kernel
theorem dX7_whenDug_55 : decode cX7_whenDug 55 = .ok (.ireturn, 1) := by decide +kernel
