theorem lg_wsX7_toldOfMole_0 : GoodIn wsX7_toldOfMole ([.fieldLink RX7 7 "MolesLawnModel" "s" "[I", .methodLink RX7 64 yX7_of, .static yX7_of, .initialized RX7, .code yX7_of cX7_of 2 (some .int)] : List Cond) := goodIn_sub (fun _ h => (List.mem_cons_of_mem _ (List.mem_append_left _ h))) (by decide +kernel)
theorem ls_wsX7_toldOfMole_0 : GoodIn wsX7_toldOfMole wsX70 := goodIn_sub (fun _ h => (List.mem_cons_of_mem _ (List.mem_append_right _ h))) (by decide +kernel)
set_option maxRecDepth 20000 in
theorem ggX7_toldOfMole_X7_of : GoodIn wsX7_toldOfMole wsX7_of := (gi_cons (lg_wsX7_toldOfMole_0 _ (List.mem_of_getElem? (i := 4) rfl)) gi_nil)
set_option maxRecDepth 20000 in
theorem gX7_toldOfMole_X7_of : GoodIn wsX7_toldOfMole (va_wsS RX7 64 yX7_of wsX7_of) := goodIn_app (gi_cons (lg_wsX7_toldOfMole_0 _ (List.mem_of_getElem? (i := 1) rfl)) (gi_cons (lg_wsX7_toldOfMole_0 _ (List.mem_of_getElem? (i := 2) rfl)) (gi_cons (lg_wsX7_toldOfMole_0 _ (List.mem_of_getElem? (i := 3) rfl)) gi_nil))) ggX7_toldOfMole_X7_of
theorem dX7_toldOfMole_0 : decode cX7_toldOfMole 0 = .ok (.iload_n 2, 1) := by decide +kernel
theorem dX7_toldOfMole_1 : decode cX7_toldOfMole 1 = .ok (.tableswitch 102 0 5 #[39, 39, 39, 50, 78, 90], 39) := by decide +kernel
theorem dX7_toldOfMole_40 : decode cX7_toldOfMole 40 = .ok (.aload_n 0, 1) := by decide +kernel
theorem dX7_toldOfMole_41 : decode cX7_toldOfMole 41 = .ok (.getfield 7, 3) := by decide +kernel
theorem dX7_toldOfMole_44 : decode cX7_toldOfMole 44 = .ok (.iload_n 1, 1) := by decide +kernel
theorem dX7_toldOfMole_45 : decode cX7_toldOfMole 45 = .ok (.iload_n 2, 1) := by decide +kernel
theorem dX7_toldOfMole_46 : decode cX7_toldOfMole 46 = .ok (.invokestatic 64, 3) := by decide +kernel
theorem dX7_toldOfMole_49 : decode cX7_toldOfMole 49 = .ok (.iaload, 1) := by decide +kernel
theorem dX7_toldOfMole_50 : decode cX7_toldOfMole 50 = .ok (.ireturn, 1) := by decide +kernel
theorem dX7_toldOfMole_51 : decode cX7_toldOfMole 51 = .ok (.aload_n 0, 1) := by decide +kernel
theorem dX7_toldOfMole_52 : decode cX7_toldOfMole 52 = .ok (.getfield 7, 3) := by decide +kernel
theorem dX7_toldOfMole_55 : decode cX7_toldOfMole 55 = .ok (.iload_n 1, 1) := by decide +kernel
theorem dX7_toldOfMole_56 : decode cX7_toldOfMole 56 = .ok (.iconst 2, 1) := by decide +kernel
theorem dX7_toldOfMole_57 : decode cX7_toldOfMole 57 = .ok (.invokestatic 64, 3) := by decide +kernel
theorem dX7_toldOfMole_60 : decode cX7_toldOfMole 60 = .ok (.iaload, 1) := by decide +kernel
theorem dX7_toldOfMole_61 : decode cX7_toldOfMole 61 = .ok (.ifCond .ne 7, 3) := by decide +kernel
theorem dX7_toldOfMole_64 : decode cX7_toldOfMole 64 = .ok (.iconst (-1), 1) := by decide +kernel
theorem dX7_toldOfMole_65 : decode cX7_toldOfMole 65 = .ok (.goto 13, 3) := by decide +kernel
theorem dX7_toldOfMole_68 : decode cX7_toldOfMole 68 = .ok (.aload_n 0, 1) := by decide +kernel
theorem dX7_toldOfMole_69 : decode cX7_toldOfMole 69 = .ok (.getfield 7, 3) := by decide +kernel
theorem dX7_toldOfMole_72 : decode cX7_toldOfMole 72 = .ok (.iload_n 1, 1) := by decide +kernel
theorem dX7_toldOfMole_73 : decode cX7_toldOfMole 73 = .ok (.iconst 3, 1) := by decide +kernel
theorem dX7_toldOfMole_74 : decode cX7_toldOfMole 74 = .ok (.invokestatic 64, 3) := by decide +kernel
theorem dX7_toldOfMole_77 : decode cX7_toldOfMole 77 = .ok (.iaload, 1) := by decide +kernel
theorem dX7_toldOfMole_78 : decode cX7_toldOfMole 78 = .ok (.ireturn, 1) := by decide +kernel
theorem dX7_toldOfMole_79 : decode cX7_toldOfMole 79 = .ok (.aload_n 0, 1) := by decide +kernel
theorem dX7_toldOfMole_80 : decode cX7_toldOfMole 80 = .ok (.getfield 7, 3) := by decide +kernel
theorem dX7_toldOfMole_83 : decode cX7_toldOfMole 83 = .ok (.iload_n 1, 1) := by decide +kernel
theorem dX7_toldOfMole_84 : decode cX7_toldOfMole 84 = .ok (.bipush 24, 2) := by decide +kernel
theorem dX7_toldOfMole_86 : decode cX7_toldOfMole 86 = .ok (.invokestatic 64, 3) := by decide +kernel
theorem dX7_toldOfMole_89 : decode cX7_toldOfMole 89 = .ok (.iaload, 1) := by decide +kernel
theorem dX7_toldOfMole_90 : decode cX7_toldOfMole 90 = .ok (.ireturn, 1) := by decide +kernel
theorem dX7_toldOfMole_91 : decode cX7_toldOfMole 91 = .ok (.aload_n 0, 1) := by decide +kernel
theorem dX7_toldOfMole_92 : decode cX7_toldOfMole 92 = .ok (.getfield 7, 3) := by decide +kernel
theorem dX7_toldOfMole_95 : decode cX7_toldOfMole 95 = .ok (.iload_n 1, 1) := by decide +kernel
theorem dX7_toldOfMole_96 : decode cX7_toldOfMole 96 = .ok (.bipush 23, 2) := by decide +kernel
theorem dX7_toldOfMole_98 : decode cX7_toldOfMole 98 = .ok (.invokestatic 64, 3) := by decide +kernel
theorem dX7_toldOfMole_101 : decode cX7_toldOfMole 101 = .ok (.iaload, 1) := by decide +kernel
theorem dX7_toldOfMole_102 : decode cX7_toldOfMole 102 = .ok (.ireturn, 1) := by decide +kernel
theorem dX7_toldOfMole_103 : decode cX7_toldOfMole 103 = .ok (.aload_n 0, 1) := by decide +kernel
theorem dX7_toldOfMole_104 : decode cX7_toldOfMole 104 = .ok (.getfield 7, 3) := by decide +kernel
theorem dX7_toldOfMole_107 : decode cX7_toldOfMole 107 = .ok (.iload_n 1, 1) := by decide +kernel
theorem dX7_toldOfMole_108 : decode cX7_toldOfMole 108 = .ok (.bipush 45, 2) := by decide +kernel
theorem dX7_toldOfMole_110 : decode cX7_toldOfMole 110 = .ok (.invokestatic 64, 3) := by decide +kernel
theorem dX7_toldOfMole_113 : decode cX7_toldOfMole 113 = .ok (.iaload, 1) := by decide +kernel
theorem dX7_toldOfMole_114 : decode cX7_toldOfMole 114 = .ok (.ireturn, 1) := by decide +kernel
theorem lg_wsX7_moleOf_0 : GoodIn wsX7_moleOf ([.methodLink RX7 126 yX7_isMole, .instanceMethod yX7_isMole, .selects RX7 yX7_isMole yX7_isMole, .initialized RX7, .code yX7_isMole cX7_isMole 2 (some .boolean), .fieldLink RX7 7 "MolesLawnModel" "s" "[I", .methodLink RX7 42 yX7_in, .static yX7_in, .code yX7_in cX7_in 3 (some .boolean), .methodLink RX7 123 yX7_holds, .instanceMethod yX7_holds, .selects RX7 yX7_holds yX7_holds, .code yX7_holds cX7_holds 2 (some .boolean), .fieldLink RX7 38 "MolesLawnModel" "thrown" "I", .methodLink RX7 224 yX7_toldOfMole, .instanceMethod yX7_toldOfMole, .selects RX7 yX7_toldOfMole yX7_toldOfMole, .code yX7_toldOfMole cX7_toldOfMole 3 (some .int), .methodLink RX7 64 yX7_of, .static yX7_of, .code yX7_of cX7_of 2 (some .int)] : List Cond) := goodIn_sub (fun _ h => (List.mem_cons_of_mem _ (List.mem_append_left _ h))) (by decide +kernel)
theorem ls_wsX7_moleOf_0 : GoodIn wsX7_moleOf wsX70 := goodIn_sub (fun _ h => (List.mem_cons_of_mem _ (List.mem_append_right _ h))) (by decide +kernel)
set_option maxRecDepth 20000 in
theorem ggX7_moleOf_X7_isMole : GoodIn wsX7_moleOf wsX7_isMole := (gi_cons (lg_wsX7_moleOf_0 _ (List.mem_of_getElem? (i := 4) rfl)) (goodIn_app (gi_cons (lg_wsX7_moleOf_0 _ (List.mem_of_getElem? (i := 5) rfl)) (gi_cons (lg_wsX7_moleOf_0 _ (List.mem_of_getElem? (i := 6) rfl)) (gi_cons (lg_wsX7_moleOf_0 _ (List.mem_of_getElem? (i := 7) rfl)) (gi_cons (lg_wsX7_moleOf_0 _ (List.mem_of_getElem? (i := 3) rfl)) (gi_cons (lg_wsX7_moleOf_0 _ (List.mem_of_getElem? (i := 8) rfl)) gi_nil))))) ls_wsX7_moleOf_0))
set_option maxRecDepth 20000 in
theorem gX7_moleOf_X7_isMole : GoodIn wsX7_moleOf (wsV RX7 126 RX7 yX7_isMole wsX7_isMole) := goodIn_app (gi_cons (lg_wsX7_moleOf_0 _ (List.mem_of_getElem? (i := 0) rfl)) (gi_cons (lg_wsX7_moleOf_0 _ (List.mem_of_getElem? (i := 1) rfl)) (gi_cons (lg_wsX7_moleOf_0 _ (List.mem_of_getElem? (i := 2) rfl)) (gi_cons (lg_wsX7_moleOf_0 _ (List.mem_of_getElem? (i := 3) rfl)) gi_nil)))) ggX7_moleOf_X7_isMole
set_option maxRecDepth 20000 in
theorem ggX7_moleOf_X7_in : GoodIn wsX7_moleOf wsX7_in := (gi_cons (lg_wsX7_moleOf_0 _ (List.mem_of_getElem? (i := 8) rfl)) gi_nil)
set_option maxRecDepth 20000 in
theorem gX7_moleOf_X7_in : GoodIn wsX7_moleOf (va_wsS RX7 42 yX7_in wsX7_in) := goodIn_app (gi_cons (lg_wsX7_moleOf_0 _ (List.mem_of_getElem? (i := 6) rfl)) (gi_cons (lg_wsX7_moleOf_0 _ (List.mem_of_getElem? (i := 7) rfl)) (gi_cons (lg_wsX7_moleOf_0 _ (List.mem_of_getElem? (i := 3) rfl)) gi_nil))) ggX7_moleOf_X7_in
set_option maxRecDepth 20000 in
theorem ggX7_moleOf_X7_holds : GoodIn wsX7_moleOf wsX7_holds := (gi_cons (lg_wsX7_moleOf_0 _ (List.mem_of_getElem? (i := 12) rfl)) (goodIn_app (gi_cons (lg_wsX7_moleOf_0 _ (List.mem_of_getElem? (i := 13) rfl)) gi_nil) ls_wsX7_moleOf_0))
set_option maxRecDepth 20000 in
theorem gX7_moleOf_X7_holds : GoodIn wsX7_moleOf (wsV RX7 123 RX7 yX7_holds wsX7_holds) := goodIn_app (gi_cons (lg_wsX7_moleOf_0 _ (List.mem_of_getElem? (i := 9) rfl)) (gi_cons (lg_wsX7_moleOf_0 _ (List.mem_of_getElem? (i := 10) rfl)) (gi_cons (lg_wsX7_moleOf_0 _ (List.mem_of_getElem? (i := 11) rfl)) (gi_cons (lg_wsX7_moleOf_0 _ (List.mem_of_getElem? (i := 3) rfl)) gi_nil)))) ggX7_moleOf_X7_holds
set_option maxRecDepth 20000 in
theorem ggX7_moleOf_X7_toldOfMole : GoodIn wsX7_moleOf wsX7_toldOfMole := (gi_cons (lg_wsX7_moleOf_0 _ (List.mem_of_getElem? (i := 17) rfl)) (goodIn_app (gi_cons (lg_wsX7_moleOf_0 _ (List.mem_of_getElem? (i := 5) rfl)) (gi_cons (lg_wsX7_moleOf_0 _ (List.mem_of_getElem? (i := 18) rfl)) (gi_cons (lg_wsX7_moleOf_0 _ (List.mem_of_getElem? (i := 19) rfl)) (gi_cons (lg_wsX7_moleOf_0 _ (List.mem_of_getElem? (i := 3) rfl)) (gi_cons (lg_wsX7_moleOf_0 _ (List.mem_of_getElem? (i := 20) rfl)) gi_nil))))) ls_wsX7_moleOf_0))
set_option maxRecDepth 20000 in
theorem gX7_moleOf_X7_toldOfMole : GoodIn wsX7_moleOf (wsV RX7 224 RX7 yX7_toldOfMole wsX7_toldOfMole) := goodIn_app (gi_cons (lg_wsX7_moleOf_0 _ (List.mem_of_getElem? (i := 14) rfl)) (gi_cons (lg_wsX7_moleOf_0 _ (List.mem_of_getElem? (i := 15) rfl)) (gi_cons (lg_wsX7_moleOf_0 _ (List.mem_of_getElem? (i := 16) rfl)) (gi_cons (lg_wsX7_moleOf_0 _ (List.mem_of_getElem? (i := 3) rfl)) gi_nil)))) ggX7_moleOf_X7_toldOfMole
theorem dX7_moleOf_0 : decode cX7_moleOf 0 = .ok (.aload_n 0, 1) := by decide +kernel
theorem dX7_moleOf_1 : decode cX7_moleOf 1 = .ok (.aload_n 0, 1) := by decide +kernel
theorem dX7_moleOf_2 : decode cX7_moleOf 2 = .ok (.iload_n 1, 1) := by decide +kernel
theorem dX7_moleOf_3 : decode cX7_moleOf 3 = .ok (.invokevirtual 126, 3) := by decide +kernel
theorem dX7_moleOf_6 : decode cX7_moleOf 6 = .ok (.ifCond .ne 7, 3) := by decide +kernel
theorem dX7_moleOf_9 : decode cX7_moleOf 9 = .ok (.iconst 1, 1) := by decide +kernel
theorem dX7_moleOf_10 : decode cX7_moleOf 10 = .ok (.goto 18, 3) := by decide +kernel
theorem dX7_moleOf_13 : decode cX7_moleOf 13 = .ok (.iload_n 2, 1) := by decide +kernel
theorem dX7_moleOf_14 : decode cX7_moleOf 14 = .ok (.iconst 0, 1) := by decide +kernel
theorem dX7_moleOf_15 : decode cX7_moleOf 15 = .ok (.bipush 6, 2) := by decide +kernel
theorem dX7_moleOf_17 : decode cX7_moleOf 17 = .ok (.invokestatic 42, 3) := by decide +kernel
theorem dX7_moleOf_20 : decode cX7_moleOf 20 = .ok (.ifCond .ne 7, 3) := by decide +kernel
theorem dX7_moleOf_23 : decode cX7_moleOf 23 = .ok (.iconst 2, 1) := by decide +kernel
theorem dX7_moleOf_24 : decode cX7_moleOf 24 = .ok (.goto 4, 3) := by decide +kernel
theorem dX7_moleOf_27 : decode cX7_moleOf 27 = .ok (.iconst 0, 1) := by decide +kernel
theorem dX7_moleOf_28 : decode cX7_moleOf 28 = .ok (.invokevirtual 123, 3) := by decide +kernel
theorem dX7_moleOf_31 : decode cX7_moleOf 31 = .ok (.ifCond .eq 12, 3) := by decide +kernel
theorem dX7_moleOf_34 : decode cX7_moleOf 34 = .ok (.aload_n 0, 1) := by decide +kernel
theorem dX7_moleOf_35 : decode cX7_moleOf 35 = .ok (.iload_n 1, 1) := by decide +kernel
theorem dX7_moleOf_36 : decode cX7_moleOf 36 = .ok (.iload_n 2, 1) := by decide +kernel
theorem dX7_moleOf_37 : decode cX7_moleOf 37 = .ok (.invokevirtual 224, 3) := by decide +kernel
theorem dX7_moleOf_40 : decode cX7_moleOf 40 = .ok (.goto 4, 3) := by decide +kernel
theorem dX7_moleOf_43 : decode cX7_moleOf 43 = .ok (.iconst 0, 1) := by decide +kernel
theorem dX7_moleOf_44 : decode cX7_moleOf 44 = .ok (.ireturn, 1) := by decide +kernel
theorem lg_wsX7_isTunnel_0 : GoodIn wsX7_isTunnel ([.methodLink RX7 194 yX7_tunnels, .instanceMethod yX7_tunnels, .selects RX7 yX7_tunnels yX7_tunnels, .initialized RX7, .code yX7_tunnels cX7_tunnels 3 (some .int), .fieldLink RX7 7 "MolesLawnModel" "s" "[I", .methodLink RX7 42 yX7_in, .static yX7_in, .code yX7_in cX7_in 3 (some .boolean)] : List Cond) := goodIn_sub (fun _ h => (List.mem_cons_of_mem _ (List.mem_append_left _ h))) (by decide +kernel)
theorem ls_wsX7_isTunnel_0 : GoodIn wsX7_isTunnel wsX70 := goodIn_sub (fun _ h => (List.mem_cons_of_mem _ (List.mem_append_right _ h))) (by decide +kernel)
set_option maxRecDepth 20000 in
theorem ggX7_isTunnel_X7_tunnels : GoodIn wsX7_isTunnel wsX7_tunnels := (gi_cons (lg_wsX7_isTunnel_0 _ (List.mem_of_getElem? (i := 4) rfl)) (goodIn_app (gi_cons (lg_wsX7_isTunnel_0 _ (List.mem_of_getElem? (i := 5) rfl)) gi_nil) ls_wsX7_isTunnel_0))
set_option maxRecDepth 20000 in
theorem gX7_isTunnel_X7_tunnels : GoodIn wsX7_isTunnel (wsV RX7 194 RX7 yX7_tunnels wsX7_tunnels) := goodIn_app (gi_cons (lg_wsX7_isTunnel_0 _ (List.mem_of_getElem? (i := 0) rfl)) (gi_cons (lg_wsX7_isTunnel_0 _ (List.mem_of_getElem? (i := 1) rfl)) (gi_cons (lg_wsX7_isTunnel_0 _ (List.mem_of_getElem? (i := 2) rfl)) (gi_cons (lg_wsX7_isTunnel_0 _ (List.mem_of_getElem? (i := 3) rfl)) gi_nil)))) ggX7_isTunnel_X7_tunnels
set_option maxRecDepth 20000 in
theorem ggX7_isTunnel_X7_in : GoodIn wsX7_isTunnel wsX7_in := (gi_cons (lg_wsX7_isTunnel_0 _ (List.mem_of_getElem? (i := 8) rfl)) gi_nil)
set_option maxRecDepth 20000 in
theorem gX7_isTunnel_X7_in : GoodIn wsX7_isTunnel (va_wsS RX7 42 yX7_in wsX7_in) := goodIn_app (gi_cons (lg_wsX7_isTunnel_0 _ (List.mem_of_getElem? (i := 6) rfl)) (gi_cons (lg_wsX7_isTunnel_0 _ (List.mem_of_getElem? (i := 7) rfl)) (gi_cons (lg_wsX7_isTunnel_0 _ (List.mem_of_getElem? (i := 3) rfl)) gi_nil))) ggX7_isTunnel_X7_in
theorem dX7_isTunnel_0 : decode cX7_isTunnel 0 = .ok (.iload_n 1, 1) := by decide +kernel
theorem dX7_isTunnel_1 : decode cX7_isTunnel 1 = .ok (.iconst 0, 1) := by decide +kernel
theorem dX7_isTunnel_2 : decode cX7_isTunnel 2 = .ok (.aload_n 0, 1) := by decide +kernel
theorem dX7_isTunnel_3 : decode cX7_isTunnel 3 = .ok (.invokevirtual 194, 3) := by decide +kernel
theorem dX7_isTunnel_6 : decode cX7_isTunnel 6 = .ok (.iconst 1, 1) := by decide +kernel
theorem dX7_isTunnel_7 : decode cX7_isTunnel 7 = .ok (.isub, 1) := by decide +kernel
theorem dX7_isTunnel_8 : decode cX7_isTunnel 8 = .ok (.invokestatic 42, 3) := by decide +kernel
theorem dX7_isTunnel_11 : decode cX7_isTunnel 11 = .ok (.ireturn, 1) := by decide +kernel
theorem lg_wsX7_toldOfTunnel_0 : GoodIn wsX7_toldOfTunnel ([.methodLink RX7 227 yX7_beginOf, .instanceMethod yX7_beginOf, .selects RX7 yX7_beginOf yX7_beginOf, .initialized RX7, .code yX7_beginOf cX7_beginOf 4 (some .int), .methodLink RX7 49 yX7_endFrom, .instanceMethod yX7_endFrom, .selects RX7 yX7_endFrom yX7_endFrom, .code yX7_endFrom cX7_endFrom 3 (some .int), .fieldLink RX7 7 "MolesLawnModel" "s" "[I", .methodLink RX7 53 yX7_tuftAt, .instanceMethod yX7_tuftAt, .selects RX7 yX7_tuftAt yX7_tuftAt, .code yX7_tuftAt cX7_tuftAt 2 (some .int)] : List Cond) := goodIn_sub (fun _ h => (List.mem_cons_of_mem _ (List.mem_append_left _ h))) (by decide +kernel)
theorem ls_wsX7_toldOfTunnel_0 : GoodIn wsX7_toldOfTunnel wsX70 := goodIn_sub (fun _ h => (List.mem_cons_of_mem _ (List.mem_append_right _ h))) (by decide +kernel)
set_option maxRecDepth 20000 in
theorem ggX7_toldOfTunnel_X7_beginOf : GoodIn wsX7_toldOfTunnel wsX7_beginOf := (gi_cons (lg_wsX7_toldOfTunnel_0 _ (List.mem_of_getElem? (i := 4) rfl)) (goodIn_app (gi_cons (lg_wsX7_toldOfTunnel_0 _ (List.mem_of_getElem? (i := 5) rfl)) (gi_cons (lg_wsX7_toldOfTunnel_0 _ (List.mem_of_getElem? (i := 6) rfl)) (gi_cons (lg_wsX7_toldOfTunnel_0 _ (List.mem_of_getElem? (i := 7) rfl)) (gi_cons (lg_wsX7_toldOfTunnel_0 _ (List.mem_of_getElem? (i := 3) rfl)) (gi_cons (lg_wsX7_toldOfTunnel_0 _ (List.mem_of_getElem? (i := 8) rfl)) (gi_cons (lg_wsX7_toldOfTunnel_0 _ (List.mem_of_getElem? (i := 9) rfl)) gi_nil)))))) ls_wsX7_toldOfTunnel_0))
set_option maxRecDepth 20000 in
theorem gX7_toldOfTunnel_X7_beginOf : GoodIn wsX7_toldOfTunnel (wsV RX7 227 RX7 yX7_beginOf wsX7_beginOf) := goodIn_app (gi_cons (lg_wsX7_toldOfTunnel_0 _ (List.mem_of_getElem? (i := 0) rfl)) (gi_cons (lg_wsX7_toldOfTunnel_0 _ (List.mem_of_getElem? (i := 1) rfl)) (gi_cons (lg_wsX7_toldOfTunnel_0 _ (List.mem_of_getElem? (i := 2) rfl)) (gi_cons (lg_wsX7_toldOfTunnel_0 _ (List.mem_of_getElem? (i := 3) rfl)) gi_nil)))) ggX7_toldOfTunnel_X7_beginOf
set_option maxRecDepth 20000 in
theorem ggX7_toldOfTunnel_X7_endFrom : GoodIn wsX7_toldOfTunnel wsX7_endFrom := (gi_cons (lg_wsX7_toldOfTunnel_0 _ (List.mem_of_getElem? (i := 8) rfl)) (goodIn_app (gi_cons (lg_wsX7_toldOfTunnel_0 _ (List.mem_of_getElem? (i := 9) rfl)) gi_nil) ls_wsX7_toldOfTunnel_0))
set_option maxRecDepth 20000 in
theorem gX7_toldOfTunnel_X7_endFrom : GoodIn wsX7_toldOfTunnel (wsV RX7 49 RX7 yX7_endFrom wsX7_endFrom) := goodIn_app (gi_cons (lg_wsX7_toldOfTunnel_0 _ (List.mem_of_getElem? (i := 5) rfl)) (gi_cons (lg_wsX7_toldOfTunnel_0 _ (List.mem_of_getElem? (i := 6) rfl)) (gi_cons (lg_wsX7_toldOfTunnel_0 _ (List.mem_of_getElem? (i := 7) rfl)) (gi_cons (lg_wsX7_toldOfTunnel_0 _ (List.mem_of_getElem? (i := 3) rfl)) gi_nil)))) ggX7_toldOfTunnel_X7_endFrom
set_option maxRecDepth 20000 in
theorem ggX7_toldOfTunnel_X7_tuftAt : GoodIn wsX7_toldOfTunnel wsX7_tuftAt := (gi_cons (lg_wsX7_toldOfTunnel_0 _ (List.mem_of_getElem? (i := 13) rfl)) (goodIn_app (gi_cons (lg_wsX7_toldOfTunnel_0 _ (List.mem_of_getElem? (i := 9) rfl)) gi_nil) ls_wsX7_toldOfTunnel_0))
set_option maxRecDepth 20000 in
theorem gX7_toldOfTunnel_X7_tuftAt : GoodIn wsX7_toldOfTunnel (wsV RX7 53 RX7 yX7_tuftAt wsX7_tuftAt) := goodIn_app (gi_cons (lg_wsX7_toldOfTunnel_0 _ (List.mem_of_getElem? (i := 10) rfl)) (gi_cons (lg_wsX7_toldOfTunnel_0 _ (List.mem_of_getElem? (i := 11) rfl)) (gi_cons (lg_wsX7_toldOfTunnel_0 _ (List.mem_of_getElem? (i := 12) rfl)) (gi_cons (lg_wsX7_toldOfTunnel_0 _ (List.mem_of_getElem? (i := 3) rfl)) gi_nil)))) ggX7_toldOfTunnel_X7_tuftAt
theorem dX7_toldOfTunnel_0 : decode cX7_toldOfTunnel 0 = .ok (.aload_n 0, 1) := by decide +kernel
theorem dX7_toldOfTunnel_1 : decode cX7_toldOfTunnel 1 = .ok (.iload_n 1, 1) := by decide +kernel
theorem dX7_toldOfTunnel_2 : decode cX7_toldOfTunnel 2 = .ok (.invokevirtual 227, 3) := by decide +kernel
theorem dX7_toldOfTunnel_5 : decode cX7_toldOfTunnel 5 = .ok (.istore_n 3, 1) := by decide +kernel
theorem dX7_toldOfTunnel_6 : decode cX7_toldOfTunnel 6 = .ok (.aload_n 0, 1) := by decide +kernel
theorem dX7_toldOfTunnel_7 : decode cX7_toldOfTunnel 7 = .ok (.iload_n 3, 1) := by decide +kernel
theorem dX7_toldOfTunnel_8 : decode cX7_toldOfTunnel 8 = .ok (.invokevirtual 49, 3) := by decide +kernel
theorem dX7_toldOfTunnel_11 : decode cX7_toldOfTunnel 11 = .ok (.istore 4, 2) := by decide +kernel
theorem dX7_toldOfTunnel_13 : decode cX7_toldOfTunnel 13 = .ok (.iload_n 2, 1) := by decide +kernel
theorem dX7_toldOfTunnel_14 : decode cX7_toldOfTunnel 14 = .ok (.ifCond .ne 11, 3) := by decide +kernel
theorem dX7_toldOfTunnel_17 : decode cX7_toldOfTunnel 17 = .ok (.aload_n 0, 1) := by decide +kernel
theorem dX7_toldOfTunnel_18 : decode cX7_toldOfTunnel 18 = .ok (.iload_n 3, 1) := by decide +kernel
theorem dX7_toldOfTunnel_19 : decode cX7_toldOfTunnel 19 = .ok (.invokevirtual 53, 3) := by decide +kernel
theorem dX7_toldOfTunnel_22 : decode cX7_toldOfTunnel 22 = .ok (.goto 23, 3) := by decide +kernel
theorem dX7_toldOfTunnel_25 : decode cX7_toldOfTunnel 25 = .ok (.iload_n 2, 1) := by decide +kernel
theorem dX7_toldOfTunnel_26 : decode cX7_toldOfTunnel 26 = .ok (.iconst 1, 1) := by decide +kernel
theorem dX7_toldOfTunnel_27 : decode cX7_toldOfTunnel 27 = .ok (.if_icmp .ne 12, 3) := by decide +kernel
theorem dX7_toldOfTunnel_30 : decode cX7_toldOfTunnel 30 = .ok (.aload_n 0, 1) := by decide +kernel
theorem dX7_toldOfTunnel_31 : decode cX7_toldOfTunnel 31 = .ok (.iload 4, 2) := by decide +kernel
theorem dX7_toldOfTunnel_33 : decode cX7_toldOfTunnel 33 = .ok (.invokevirtual 53, 3) := by decide +kernel
theorem dX7_toldOfTunnel_36 : decode cX7_toldOfTunnel 36 = .ok (.goto 9, 3) := by decide +kernel
theorem dX7_toldOfTunnel_39 : decode cX7_toldOfTunnel 39 = .ok (.iload 4, 2) := by decide +kernel
theorem dX7_toldOfTunnel_41 : decode cX7_toldOfTunnel 41 = .ok (.iload_n 3, 1) := by decide +kernel
theorem dX7_toldOfTunnel_42 : decode cX7_toldOfTunnel 42 = .ok (.isub, 1) := by decide +kernel
theorem dX7_toldOfTunnel_43 : decode cX7_toldOfTunnel 43 = .ok (.iconst 1, 1) := by decide +kernel
theorem dX7_toldOfTunnel_44 : decode cX7_toldOfTunnel 44 = .ok (.iadd, 1) := by decide +kernel
theorem dX7_toldOfTunnel_45 : decode cX7_toldOfTunnel 45 = .ok (.ireturn, 1) := by decide +kernel
theorem lg_wsX7_tunnel_0 : GoodIn wsX7_tunnel wsX7_tunnel_r1 := goodIn_sub (fun _ h => (List.mem_cons_of_mem _ (List.mem_append_left _ (List.mem_append_left _ h)))) (by decide +kernel)
theorem lg_wsX7_tunnel_1 : GoodIn wsX7_tunnel wsX7_tunnel_r2 := goodIn_sub (fun _ h => (List.mem_cons_of_mem _ (List.mem_append_left _ (List.mem_append_right _ h)))) (by decide +kernel)
theorem ls_wsX7_tunnel_0 : GoodIn wsX7_tunnel wsX70 := goodIn_sub (fun _ h => (List.mem_cons_of_mem _ (List.mem_append_right _ h))) (by decide +kernel)
set_option maxRecDepth 20000 in
theorem ggX7_tunnel_X7_isTunnel : GoodIn wsX7_tunnel wsX7_isTunnel := (gi_cons (lg_wsX7_tunnel_0 _ (List.mem_of_getElem? (i := 4) rfl)) (goodIn_app (gi_cons (lg_wsX7_tunnel_0 _ (List.mem_of_getElem? (i := 5) rfl)) (gi_cons (lg_wsX7_tunnel_0 _ (List.mem_of_getElem? (i := 6) rfl)) (gi_cons (lg_wsX7_tunnel_0 _ (List.mem_of_getElem? (i := 7) rfl)) (gi_cons (lg_wsX7_tunnel_0 _ (List.mem_of_getElem? (i := 3) rfl)) (gi_cons (lg_wsX7_tunnel_0 _ (List.mem_of_getElem? (i := 8) rfl)) (gi_cons (lg_wsX7_tunnel_0 _ (List.mem_of_getElem? (i := 9) rfl)) (gi_cons (lg_wsX7_tunnel_0 _ (List.mem_of_getElem? (i := 10) rfl)) (gi_cons (lg_wsX7_tunnel_0 _ (List.mem_of_getElem? (i := 11) rfl)) (gi_cons (lg_wsX7_tunnel_0 _ (List.mem_of_getElem? (i := 12) rfl)) gi_nil))))))))) ls_wsX7_tunnel_0))
set_option maxRecDepth 20000 in
theorem gX7_tunnel_X7_isTunnel : GoodIn wsX7_tunnel (wsV RX7 230 RX7 yX7_isTunnel wsX7_isTunnel) := goodIn_app (gi_cons (lg_wsX7_tunnel_0 _ (List.mem_of_getElem? (i := 0) rfl)) (gi_cons (lg_wsX7_tunnel_0 _ (List.mem_of_getElem? (i := 1) rfl)) (gi_cons (lg_wsX7_tunnel_0 _ (List.mem_of_getElem? (i := 2) rfl)) (gi_cons (lg_wsX7_tunnel_0 _ (List.mem_of_getElem? (i := 3) rfl)) gi_nil)))) ggX7_tunnel_X7_isTunnel
set_option maxRecDepth 20000 in
theorem ggX7_tunnel_X7_in : GoodIn wsX7_tunnel wsX7_in := (gi_cons (lg_wsX7_tunnel_0 _ (List.mem_of_getElem? (i := 12) rfl)) gi_nil)
set_option maxRecDepth 20000 in
theorem gX7_tunnel_X7_in : GoodIn wsX7_tunnel (va_wsS RX7 42 yX7_in wsX7_in) := goodIn_app (gi_cons (lg_wsX7_tunnel_0 _ (List.mem_of_getElem? (i := 10) rfl)) (gi_cons (lg_wsX7_tunnel_0 _ (List.mem_of_getElem? (i := 11) rfl)) (gi_cons (lg_wsX7_tunnel_0 _ (List.mem_of_getElem? (i := 3) rfl)) gi_nil))) ggX7_tunnel_X7_in
set_option maxRecDepth 20000 in
theorem ggX7_tunnel_X7_holds : GoodIn wsX7_tunnel wsX7_holds := (gi_cons (lg_wsX7_tunnel_0 _ (List.mem_of_getElem? (i := 16) rfl)) (goodIn_app (gi_cons (lg_wsX7_tunnel_0 _ (List.mem_of_getElem? (i := 17) rfl)) gi_nil) ls_wsX7_tunnel_0))
set_option maxRecDepth 20000 in
theorem gX7_tunnel_X7_holds : GoodIn wsX7_tunnel (wsV RX7 123 RX7 yX7_holds wsX7_holds) := goodIn_app (gi_cons (lg_wsX7_tunnel_0 _ (List.mem_of_getElem? (i := 13) rfl)) (gi_cons (lg_wsX7_tunnel_0 _ (List.mem_of_getElem? (i := 14) rfl)) (gi_cons (lg_wsX7_tunnel_0 _ (List.mem_of_getElem? (i := 15) rfl)) (gi_cons (lg_wsX7_tunnel_0 _ (List.mem_of_getElem? (i := 3) rfl)) gi_nil)))) ggX7_tunnel_X7_holds
set_option maxRecDepth 20000 in
theorem ggX7_tunnel_X7_toldOfTunnel : GoodIn wsX7_tunnel wsX7_toldOfTunnel := (gi_cons (lg_wsX7_tunnel_0 _ (List.mem_of_getElem? (i := 21) rfl)) (goodIn_app (gi_cons (lg_wsX7_tunnel_0 _ (List.mem_of_getElem? (i := 22) rfl)) (gi_cons (lg_wsX7_tunnel_0 _ (List.mem_of_getElem? (i := 23) rfl)) (gi_cons (lg_wsX7_tunnel_1 _ (List.mem_of_getElem? (i := 0) rfl)) (gi_cons (lg_wsX7_tunnel_0 _ (List.mem_of_getElem? (i := 3) rfl)) (gi_cons (lg_wsX7_tunnel_1 _ (List.mem_of_getElem? (i := 1) rfl)) (gi_cons (lg_wsX7_tunnel_1 _ (List.mem_of_getElem? (i := 2) rfl)) (gi_cons (lg_wsX7_tunnel_1 _ (List.mem_of_getElem? (i := 3) rfl)) (gi_cons (lg_wsX7_tunnel_1 _ (List.mem_of_getElem? (i := 4) rfl)) (gi_cons (lg_wsX7_tunnel_1 _ (List.mem_of_getElem? (i := 5) rfl)) (gi_cons (lg_wsX7_tunnel_0 _ (List.mem_of_getElem? (i := 9) rfl)) (gi_cons (lg_wsX7_tunnel_1 _ (List.mem_of_getElem? (i := 6) rfl)) (gi_cons (lg_wsX7_tunnel_1 _ (List.mem_of_getElem? (i := 7) rfl)) (gi_cons (lg_wsX7_tunnel_1 _ (List.mem_of_getElem? (i := 8) rfl)) (gi_cons (lg_wsX7_tunnel_1 _ (List.mem_of_getElem? (i := 9) rfl)) gi_nil)))))))))))))) ls_wsX7_tunnel_0))
set_option maxRecDepth 20000 in
theorem gX7_tunnel_X7_toldOfTunnel : GoodIn wsX7_tunnel (wsV RX7 233 RX7 yX7_toldOfTunnel wsX7_toldOfTunnel) := goodIn_app (gi_cons (lg_wsX7_tunnel_0 _ (List.mem_of_getElem? (i := 18) rfl)) (gi_cons (lg_wsX7_tunnel_0 _ (List.mem_of_getElem? (i := 19) rfl)) (gi_cons (lg_wsX7_tunnel_0 _ (List.mem_of_getElem? (i := 20) rfl)) (gi_cons (lg_wsX7_tunnel_0 _ (List.mem_of_getElem? (i := 3) rfl)) gi_nil)))) ggX7_tunnel_X7_toldOfTunnel
theorem dX7_tunnel_0 : decode cX7_tunnel 0 = .ok (.aload_n 0, 1) := by decide +kernel
theorem dX7_tunnel_1 : decode cX7_tunnel 1 = .ok (.aload_n 0, 1) := by decide +kernel
theorem dX7_tunnel_2 : decode cX7_tunnel 2 = .ok (.iload_n 1, 1) := by decide +kernel
theorem dX7_tunnel_3 : decode cX7_tunnel 3 = .ok (.invokevirtual 230, 3) := by decide +kernel
theorem dX7_tunnel_6 : decode cX7_tunnel 6 = .ok (.ifCond .ne 7, 3) := by decide +kernel
theorem dX7_tunnel_9 : decode cX7_tunnel 9 = .ok (.iconst 1, 1) := by decide +kernel
theorem dX7_tunnel_10 : decode cX7_tunnel 10 = .ok (.goto 17, 3) := by decide +kernel
theorem dX7_tunnel_13 : decode cX7_tunnel 13 = .ok (.iload_n 2, 1) := by decide +kernel
theorem dX7_tunnel_14 : decode cX7_tunnel 14 = .ok (.iconst 0, 1) := by decide +kernel
theorem dX7_tunnel_15 : decode cX7_tunnel 15 = .ok (.iconst 2, 1) := by decide +kernel
theorem dX7_tunnel_16 : decode cX7_tunnel 16 = .ok (.invokestatic 42, 3) := by decide +kernel
theorem dX7_tunnel_19 : decode cX7_tunnel 19 = .ok (.ifCond .ne 7, 3) := by decide +kernel
theorem dX7_tunnel_22 : decode cX7_tunnel 22 = .ok (.iconst 2, 1) := by decide +kernel
theorem dX7_tunnel_23 : decode cX7_tunnel 23 = .ok (.goto 4, 3) := by decide +kernel
theorem dX7_tunnel_26 : decode cX7_tunnel 26 = .ok (.iconst 0, 1) := by decide +kernel
theorem dX7_tunnel_27 : decode cX7_tunnel 27 = .ok (.invokevirtual 123, 3) := by decide +kernel
theorem dX7_tunnel_30 : decode cX7_tunnel 30 = .ok (.ifCond .eq 12, 3) := by decide +kernel
theorem dX7_tunnel_33 : decode cX7_tunnel 33 = .ok (.aload_n 0, 1) := by decide +kernel
theorem dX7_tunnel_34 : decode cX7_tunnel 34 = .ok (.iload_n 1, 1) := by decide +kernel
theorem dX7_tunnel_35 : decode cX7_tunnel 35 = .ok (.iload_n 2, 1) := by decide +kernel
theorem dX7_tunnel_36 : decode cX7_tunnel 36 = .ok (.invokevirtual 233, 3) := by decide +kernel
theorem dX7_tunnel_39 : decode cX7_tunnel 39 = .ok (.goto 4, 3) := by decide +kernel
theorem dX7_tunnel_42 : decode cX7_tunnel 42 = .ok (.iconst 0, 1) := by decide +kernel
theorem dX7_tunnel_43 : decode cX7_tunnel 43 = .ok (.ireturn, 1) := by decide +kernel
theorem lg_wsX7_cellOf_0 : GoodIn wsX7_cellOf ([.methodLink RX7 233 yX7_toldOfTunnel, .instanceMethod yX7_toldOfTunnel, .selects RX7 yX7_toldOfTunnel yX7_toldOfTunnel, .initialized RX7, .code yX7_toldOfTunnel cX7_toldOfTunnel 5 (some .int), .methodLink RX7 227 yX7_beginOf, .instanceMethod yX7_beginOf, .selects RX7 yX7_beginOf yX7_beginOf, .code yX7_beginOf cX7_beginOf 4 (some .int), .methodLink RX7 49 yX7_endFrom, .instanceMethod yX7_endFrom, .selects RX7 yX7_endFrom yX7_endFrom, .code yX7_endFrom cX7_endFrom 3 (some .int), .fieldLink RX7 7 "MolesLawnModel" "s" "[I", .methodLink RX7 53 yX7_tuftAt, .instanceMethod yX7_tuftAt, .selects RX7 yX7_tuftAt yX7_tuftAt, .code yX7_tuftAt cX7_tuftAt 2 (some .int)] : List Cond) := goodIn_sub (fun _ h => (List.mem_cons_of_mem _ (List.mem_append_left _ h))) (by decide +kernel)
theorem ls_wsX7_cellOf_0 : GoodIn wsX7_cellOf wsX70 := goodIn_sub (fun _ h => (List.mem_cons_of_mem _ (List.mem_append_right _ h))) (by decide +kernel)
set_option maxRecDepth 20000 in
theorem ggX7_cellOf_X7_toldOfTunnel : GoodIn wsX7_cellOf wsX7_toldOfTunnel := (gi_cons (lg_wsX7_cellOf_0 _ (List.mem_of_getElem? (i := 4) rfl)) (goodIn_app (gi_cons (lg_wsX7_cellOf_0 _ (List.mem_of_getElem? (i := 5) rfl)) (gi_cons (lg_wsX7_cellOf_0 _ (List.mem_of_getElem? (i := 6) rfl)) (gi_cons (lg_wsX7_cellOf_0 _ (List.mem_of_getElem? (i := 7) rfl)) (gi_cons (lg_wsX7_cellOf_0 _ (List.mem_of_getElem? (i := 3) rfl)) (gi_cons (lg_wsX7_cellOf_0 _ (List.mem_of_getElem? (i := 8) rfl)) (gi_cons (lg_wsX7_cellOf_0 _ (List.mem_of_getElem? (i := 9) rfl)) (gi_cons (lg_wsX7_cellOf_0 _ (List.mem_of_getElem? (i := 10) rfl)) (gi_cons (lg_wsX7_cellOf_0 _ (List.mem_of_getElem? (i := 11) rfl)) (gi_cons (lg_wsX7_cellOf_0 _ (List.mem_of_getElem? (i := 12) rfl)) (gi_cons (lg_wsX7_cellOf_0 _ (List.mem_of_getElem? (i := 13) rfl)) (gi_cons (lg_wsX7_cellOf_0 _ (List.mem_of_getElem? (i := 14) rfl)) (gi_cons (lg_wsX7_cellOf_0 _ (List.mem_of_getElem? (i := 15) rfl)) (gi_cons (lg_wsX7_cellOf_0 _ (List.mem_of_getElem? (i := 16) rfl)) (gi_cons (lg_wsX7_cellOf_0 _ (List.mem_of_getElem? (i := 17) rfl)) gi_nil)))))))))))))) ls_wsX7_cellOf_0))
set_option maxRecDepth 20000 in
theorem gX7_cellOf_X7_toldOfTunnel : GoodIn wsX7_cellOf (wsV RX7 233 RX7 yX7_toldOfTunnel wsX7_toldOfTunnel) := goodIn_app (gi_cons (lg_wsX7_cellOf_0 _ (List.mem_of_getElem? (i := 0) rfl)) (gi_cons (lg_wsX7_cellOf_0 _ (List.mem_of_getElem? (i := 1) rfl)) (gi_cons (lg_wsX7_cellOf_0 _ (List.mem_of_getElem? (i := 2) rfl)) (gi_cons (lg_wsX7_cellOf_0 _ (List.mem_of_getElem? (i := 3) rfl)) gi_nil)))) ggX7_cellOf_X7_toldOfTunnel
set_option maxRecDepth 20000 in
theorem ggX7_cellOf_X7_beginOf : GoodIn wsX7_cellOf wsX7_beginOf := (gi_cons (lg_wsX7_cellOf_0 _ (List.mem_of_getElem? (i := 8) rfl)) (goodIn_app (gi_cons (lg_wsX7_cellOf_0 _ (List.mem_of_getElem? (i := 9) rfl)) (gi_cons (lg_wsX7_cellOf_0 _ (List.mem_of_getElem? (i := 10) rfl)) (gi_cons (lg_wsX7_cellOf_0 _ (List.mem_of_getElem? (i := 11) rfl)) (gi_cons (lg_wsX7_cellOf_0 _ (List.mem_of_getElem? (i := 3) rfl)) (gi_cons (lg_wsX7_cellOf_0 _ (List.mem_of_getElem? (i := 12) rfl)) (gi_cons (lg_wsX7_cellOf_0 _ (List.mem_of_getElem? (i := 13) rfl)) gi_nil)))))) ls_wsX7_cellOf_0))
set_option maxRecDepth 20000 in
theorem gX7_cellOf_X7_beginOf : GoodIn wsX7_cellOf (wsV RX7 227 RX7 yX7_beginOf wsX7_beginOf) := goodIn_app (gi_cons (lg_wsX7_cellOf_0 _ (List.mem_of_getElem? (i := 5) rfl)) (gi_cons (lg_wsX7_cellOf_0 _ (List.mem_of_getElem? (i := 6) rfl)) (gi_cons (lg_wsX7_cellOf_0 _ (List.mem_of_getElem? (i := 7) rfl)) (gi_cons (lg_wsX7_cellOf_0 _ (List.mem_of_getElem? (i := 3) rfl)) gi_nil)))) ggX7_cellOf_X7_beginOf
set_option maxRecDepth 20000 in
theorem ggX7_cellOf_X7_tuftAt : GoodIn wsX7_cellOf wsX7_tuftAt := (gi_cons (lg_wsX7_cellOf_0 _ (List.mem_of_getElem? (i := 17) rfl)) (goodIn_app (gi_cons (lg_wsX7_cellOf_0 _ (List.mem_of_getElem? (i := 13) rfl)) gi_nil) ls_wsX7_cellOf_0))
set_option maxRecDepth 20000 in
theorem gX7_cellOf_X7_tuftAt : GoodIn wsX7_cellOf (wsV RX7 53 RX7 yX7_tuftAt wsX7_tuftAt) := goodIn_app (gi_cons (lg_wsX7_cellOf_0 _ (List.mem_of_getElem? (i := 14) rfl)) (gi_cons (lg_wsX7_cellOf_0 _ (List.mem_of_getElem? (i := 15) rfl)) (gi_cons (lg_wsX7_cellOf_0 _ (List.mem_of_getElem? (i := 16) rfl)) (gi_cons (lg_wsX7_cellOf_0 _ (List.mem_of_getElem? (i := 3) rfl)) gi_nil)))) ggX7_cellOf_X7_tuftAt
theorem dX7_cellOf_0 : decode cX7_cellOf 0 = .ok (.iload_n 2, 1) := by decide +kernel
theorem dX7_cellOf_1 : decode cX7_cellOf 1 = .ok (.aload_n 0, 1) := by decide +kernel
theorem dX7_cellOf_2 : decode cX7_cellOf 2 = .ok (.iload_n 1, 1) := by decide +kernel
theorem dX7_cellOf_3 : decode cX7_cellOf 3 = .ok (.iconst 2, 1) := by decide +kernel
theorem dX7_cellOf_4 : decode cX7_cellOf 4 = .ok (.invokevirtual 233, 3) := by decide +kernel
theorem dX7_cellOf_7 : decode cX7_cellOf 7 = .ok (.if_icmp .ge 17, 3) := by decide +kernel
theorem dX7_cellOf_10 : decode cX7_cellOf 10 = .ok (.aload_n 0, 1) := by decide +kernel
theorem dX7_cellOf_11 : decode cX7_cellOf 11 = .ok (.aload_n 0, 1) := by decide +kernel
theorem dX7_cellOf_12 : decode cX7_cellOf 12 = .ok (.iload_n 1, 1) := by decide +kernel
theorem dX7_cellOf_13 : decode cX7_cellOf 13 = .ok (.invokevirtual 227, 3) := by decide +kernel
theorem dX7_cellOf_16 : decode cX7_cellOf 16 = .ok (.iload_n 2, 1) := by decide +kernel
theorem dX7_cellOf_17 : decode cX7_cellOf 17 = .ok (.iadd, 1) := by decide +kernel
theorem dX7_cellOf_18 : decode cX7_cellOf 18 = .ok (.invokevirtual 53, 3) := by decide +kernel
theorem dX7_cellOf_21 : decode cX7_cellOf 21 = .ok (.goto 4, 3) := by decide +kernel
theorem dX7_cellOf_24 : decode cX7_cellOf 24 = .ok (.iconst (-1), 1) := by decide +kernel
theorem dX7_cellOf_25 : decode cX7_cellOf 25 = .ok (.ireturn, 1) := by decide +kernel
theorem lg_wsX7_cell_0 : GoodIn wsX7_cell wsX7_cell_r1 := goodIn_sub (fun _ h => (List.mem_cons_of_mem _ (List.mem_append_left _ (List.mem_append_left _ h)))) (by decide +kernel)
theorem lg_wsX7_cell_1 : GoodIn wsX7_cell wsX7_cell_r2 := goodIn_sub (fun _ h => (List.mem_cons_of_mem _ (List.mem_append_left _ (List.mem_append_right _ h)))) (by decide +kernel)
theorem ls_wsX7_cell_0 : GoodIn wsX7_cell wsX70 := goodIn_sub (fun _ h => (List.mem_cons_of_mem _ (List.mem_append_right _ h))) (by decide +kernel)
set_option maxRecDepth 20000 in
theorem ggX7_cell_X7_isTunnel : GoodIn wsX7_cell wsX7_isTunnel := (gi_cons (lg_wsX7_cell_0 _ (List.mem_of_getElem? (i := 4) rfl)) (goodIn_app (gi_cons (lg_wsX7_cell_0 _ (List.mem_of_getElem? (i := 5) rfl)) (gi_cons (lg_wsX7_cell_0 _ (List.mem_of_getElem? (i := 6) rfl)) (gi_cons (lg_wsX7_cell_0 _ (List.mem_of_getElem? (i := 7) rfl)) (gi_cons (lg_wsX7_cell_0 _ (List.mem_of_getElem? (i := 3) rfl)) (gi_cons (lg_wsX7_cell_0 _ (List.mem_of_getElem? (i := 8) rfl)) (gi_cons (lg_wsX7_cell_0 _ (List.mem_of_getElem? (i := 9) rfl)) (gi_cons (lg_wsX7_cell_0 _ (List.mem_of_getElem? (i := 10) rfl)) (gi_cons (lg_wsX7_cell_0 _ (List.mem_of_getElem? (i := 11) rfl)) (gi_cons (lg_wsX7_cell_0 _ (List.mem_of_getElem? (i := 12) rfl)) gi_nil))))))))) ls_wsX7_cell_0))
set_option maxRecDepth 20000 in
theorem gX7_cell_X7_isTunnel : GoodIn wsX7_cell (wsV RX7 230 RX7 yX7_isTunnel wsX7_isTunnel) := goodIn_app (gi_cons (lg_wsX7_cell_0 _ (List.mem_of_getElem? (i := 0) rfl)) (gi_cons (lg_wsX7_cell_0 _ (List.mem_of_getElem? (i := 1) rfl)) (gi_cons (lg_wsX7_cell_0 _ (List.mem_of_getElem? (i := 2) rfl)) (gi_cons (lg_wsX7_cell_0 _ (List.mem_of_getElem? (i := 3) rfl)) gi_nil)))) ggX7_cell_X7_isTunnel
set_option maxRecDepth 20000 in
theorem ggX7_cell_X7_holds : GoodIn wsX7_cell wsX7_holds := (gi_cons (lg_wsX7_cell_0 _ (List.mem_of_getElem? (i := 16) rfl)) (goodIn_app (gi_cons (lg_wsX7_cell_0 _ (List.mem_of_getElem? (i := 17) rfl)) gi_nil) ls_wsX7_cell_0))
set_option maxRecDepth 20000 in
theorem gX7_cell_X7_holds : GoodIn wsX7_cell (wsV RX7 123 RX7 yX7_holds wsX7_holds) := goodIn_app (gi_cons (lg_wsX7_cell_0 _ (List.mem_of_getElem? (i := 13) rfl)) (gi_cons (lg_wsX7_cell_0 _ (List.mem_of_getElem? (i := 14) rfl)) (gi_cons (lg_wsX7_cell_0 _ (List.mem_of_getElem? (i := 15) rfl)) (gi_cons (lg_wsX7_cell_0 _ (List.mem_of_getElem? (i := 3) rfl)) gi_nil)))) ggX7_cell_X7_holds
set_option maxRecDepth 20000 in
theorem ggX7_cell_X7_cellOf : GoodIn wsX7_cell wsX7_cellOf := (gi_cons (lg_wsX7_cell_0 _ (List.mem_of_getElem? (i := 21) rfl)) (goodIn_app (gi_cons (lg_wsX7_cell_0 _ (List.mem_of_getElem? (i := 22) rfl)) (gi_cons (lg_wsX7_cell_0 _ (List.mem_of_getElem? (i := 23) rfl)) (gi_cons (lg_wsX7_cell_1 _ (List.mem_of_getElem? (i := 0) rfl)) (gi_cons (lg_wsX7_cell_0 _ (List.mem_of_getElem? (i := 3) rfl)) (gi_cons (lg_wsX7_cell_1 _ (List.mem_of_getElem? (i := 1) rfl)) (gi_cons (lg_wsX7_cell_1 _ (List.mem_of_getElem? (i := 2) rfl)) (gi_cons (lg_wsX7_cell_1 _ (List.mem_of_getElem? (i := 3) rfl)) (gi_cons (lg_wsX7_cell_1 _ (List.mem_of_getElem? (i := 4) rfl)) (gi_cons (lg_wsX7_cell_1 _ (List.mem_of_getElem? (i := 5) rfl)) (gi_cons (lg_wsX7_cell_1 _ (List.mem_of_getElem? (i := 6) rfl)) (gi_cons (lg_wsX7_cell_1 _ (List.mem_of_getElem? (i := 7) rfl)) (gi_cons (lg_wsX7_cell_1 _ (List.mem_of_getElem? (i := 8) rfl)) (gi_cons (lg_wsX7_cell_1 _ (List.mem_of_getElem? (i := 9) rfl)) (gi_cons (lg_wsX7_cell_0 _ (List.mem_of_getElem? (i := 9) rfl)) (gi_cons (lg_wsX7_cell_1 _ (List.mem_of_getElem? (i := 10) rfl)) (gi_cons (lg_wsX7_cell_1 _ (List.mem_of_getElem? (i := 11) rfl)) (gi_cons (lg_wsX7_cell_1 _ (List.mem_of_getElem? (i := 12) rfl)) (gi_cons (lg_wsX7_cell_1 _ (List.mem_of_getElem? (i := 13) rfl)) gi_nil)))))))))))))))))) ls_wsX7_cell_0))
set_option maxRecDepth 20000 in
theorem gX7_cell_X7_cellOf : GoodIn wsX7_cell (wsV RX7 236 RX7 yX7_cellOf wsX7_cellOf) := goodIn_app (gi_cons (lg_wsX7_cell_0 _ (List.mem_of_getElem? (i := 18) rfl)) (gi_cons (lg_wsX7_cell_0 _ (List.mem_of_getElem? (i := 19) rfl)) (gi_cons (lg_wsX7_cell_0 _ (List.mem_of_getElem? (i := 20) rfl)) (gi_cons (lg_wsX7_cell_0 _ (List.mem_of_getElem? (i := 3) rfl)) gi_nil)))) ggX7_cell_X7_cellOf
theorem dX7_cell_0 : decode cX7_cell 0 = .ok (.aload_n 0, 1) := by decide +kernel
theorem dX7_cell_1 : decode cX7_cell 1 = .ok (.aload_n 0, 1) := by decide +kernel
theorem dX7_cell_2 : decode cX7_cell 2 = .ok (.iload_n 1, 1) := by decide +kernel
theorem dX7_cell_3 : decode cX7_cell 3 = .ok (.invokevirtual 230, 3) := by decide +kernel
theorem dX7_cell_6 : decode cX7_cell 6 = .ok (.ifCond .ne 7, 3) := by decide +kernel
theorem dX7_cell_9 : decode cX7_cell 9 = .ok (.iconst 1, 1) := by decide +kernel
theorem dX7_cell_10 : decode cX7_cell 10 = .ok (.goto 12, 3) := by decide +kernel
theorem dX7_cell_13 : decode cX7_cell 13 = .ok (.iload_n 2, 1) := by decide +kernel
theorem dX7_cell_14 : decode cX7_cell 14 = .ok (.ifCond .ge 7, 3) := by decide +kernel
theorem dX7_cell_17 : decode cX7_cell 17 = .ok (.iconst 2, 1) := by decide +kernel
theorem dX7_cell_18 : decode cX7_cell 18 = .ok (.goto 4, 3) := by decide +kernel
theorem dX7_cell_21 : decode cX7_cell 21 = .ok (.iconst 0, 1) := by decide +kernel
theorem dX7_cell_22 : decode cX7_cell 22 = .ok (.invokevirtual 123, 3) := by decide +kernel
theorem dX7_cell_25 : decode cX7_cell 25 = .ok (.ifCond .eq 12, 3) := by decide +kernel
theorem dX7_cell_28 : decode cX7_cell 28 = .ok (.aload_n 0, 1) := by decide +kernel
theorem dX7_cell_29 : decode cX7_cell 29 = .ok (.iload_n 1, 1) := by decide +kernel
theorem dX7_cell_30 : decode cX7_cell 30 = .ok (.iload_n 2, 1) := by decide +kernel
theorem dX7_cell_31 : decode cX7_cell 31 = .ok (.invokevirtual 236, 3) := by decide +kernel
theorem dX7_cell_34 : decode cX7_cell 34 = .ok (.goto 4, 3) := by decide +kernel
theorem dX7_cell_37 : decode cX7_cell 37 = .ok (.iconst 0, 1) := by decide +kernel
theorem dX7_cell_38 : decode cX7_cell 38 = .ok (.ireturn, 1) := by decide +kernel
theorem lg_wsX7_layAway_0 : GoodIn wsX7_layAway ([.fieldLink RX7 35 "MolesLawnModel" "away" "[I", .fieldLink RX7 7 "MolesLawnModel" "s" "[I", .methodLink RX7 92 yX7_hasMound, .instanceMethod yX7_hasMound, .selects RX7 yX7_hasMound yX7_hasMound, .initialized RX7, .code yX7_hasMound cX7_hasMound 2 (some .boolean), .methodLink RX7 53 yX7_tuftAt, .instanceMethod yX7_tuftAt, .selects RX7 yX7_tuftAt yX7_tuftAt, .code yX7_tuftAt cX7_tuftAt 2 (some .int), .methodLink RX7 49 yX7_endFrom, .instanceMethod yX7_endFrom, .selects RX7 yX7_endFrom yX7_endFrom, .code yX7_endFrom cX7_endFrom 3 (some .int)] : List Cond) := goodIn_sub (fun _ h => (List.mem_cons_of_mem _ (List.mem_append_left _ h))) (by decide +kernel)
theorem ls_wsX7_layAway_0 : GoodIn wsX7_layAway wsX70 := goodIn_sub (fun _ h => (List.mem_cons_of_mem _ (List.mem_append_right _ h))) (by decide +kernel)
set_option maxRecDepth 20000 in
theorem ggX7_layAway_X7_hasMound : GoodIn wsX7_layAway wsX7_hasMound := (gi_cons (lg_wsX7_layAway_0 _ (List.mem_of_getElem? (i := 6) rfl)) (goodIn_app (gi_cons (lg_wsX7_layAway_0 _ (List.mem_of_getElem? (i := 1) rfl)) gi_nil) ls_wsX7_layAway_0))
set_option maxRecDepth 20000 in
theorem gX7_layAway_X7_hasMound : GoodIn wsX7_layAway (wsV RX7 92 RX7 yX7_hasMound wsX7_hasMound) := goodIn_app (gi_cons (lg_wsX7_layAway_0 _ (List.mem_of_getElem? (i := 2) rfl)) (gi_cons (lg_wsX7_layAway_0 _ (List.mem_of_getElem? (i := 3) rfl)) (gi_cons (lg_wsX7_layAway_0 _ (List.mem_of_getElem? (i := 4) rfl)) (gi_cons (lg_wsX7_layAway_0 _ (List.mem_of_getElem? (i := 5) rfl)) gi_nil)))) ggX7_layAway_X7_hasMound
set_option maxRecDepth 20000 in
theorem ggX7_layAway_X7_tuftAt : GoodIn wsX7_layAway wsX7_tuftAt := (gi_cons (lg_wsX7_layAway_0 _ (List.mem_of_getElem? (i := 10) rfl)) (goodIn_app (gi_cons (lg_wsX7_layAway_0 _ (List.mem_of_getElem? (i := 1) rfl)) gi_nil) ls_wsX7_layAway_0))
set_option maxRecDepth 20000 in
theorem gX7_layAway_X7_tuftAt : GoodIn wsX7_layAway (wsV RX7 53 RX7 yX7_tuftAt wsX7_tuftAt) := goodIn_app (gi_cons (lg_wsX7_layAway_0 _ (List.mem_of_getElem? (i := 7) rfl)) (gi_cons (lg_wsX7_layAway_0 _ (List.mem_of_getElem? (i := 8) rfl)) (gi_cons (lg_wsX7_layAway_0 _ (List.mem_of_getElem? (i := 9) rfl)) (gi_cons (lg_wsX7_layAway_0 _ (List.mem_of_getElem? (i := 5) rfl)) gi_nil)))) ggX7_layAway_X7_tuftAt
set_option maxRecDepth 20000 in
theorem ggX7_layAway_X7_endFrom : GoodIn wsX7_layAway wsX7_endFrom := (gi_cons (lg_wsX7_layAway_0 _ (List.mem_of_getElem? (i := 14) rfl)) (goodIn_app (gi_cons (lg_wsX7_layAway_0 _ (List.mem_of_getElem? (i := 1) rfl)) gi_nil) ls_wsX7_layAway_0))
set_option maxRecDepth 20000 in
theorem gX7_layAway_X7_endFrom : GoodIn wsX7_layAway (wsV RX7 49 RX7 yX7_endFrom wsX7_endFrom) := goodIn_app (gi_cons (lg_wsX7_layAway_0 _ (List.mem_of_getElem? (i := 11) rfl)) (gi_cons (lg_wsX7_layAway_0 _ (List.mem_of_getElem? (i := 12) rfl)) (gi_cons (lg_wsX7_layAway_0 _ (List.mem_of_getElem? (i := 13) rfl)) (gi_cons (lg_wsX7_layAway_0 _ (List.mem_of_getElem? (i := 5) rfl)) gi_nil)))) ggX7_layAway_X7_endFrom
theorem dX7_layAway_0 : decode cX7_layAway 0 = .ok (.iconst 0, 1) := by decide +kernel
theorem dX7_layAway_1 : decode cX7_layAway 1 = .ok (.istore_n 2, 1) := by decide +kernel
theorem dX7_layAway_2 : decode cX7_layAway 2 = .ok (.iload_n 2, 1) := by decide +kernel
theorem dX7_layAway_3 : decode cX7_layAway 3 = .ok (.bipush 64, 2) := by decide +kernel
theorem dX7_layAway_5 : decode cX7_layAway 5 = .ok (.if_icmp .ge 35, 3) := by decide +kernel
theorem dX7_layAway_8 : decode cX7_layAway 8 = .ok (.aload_n 0, 1) := by decide +kernel
theorem dX7_layAway_9 : decode cX7_layAway 9 = .ok (.getfield 35, 3) := by decide +kernel
theorem dX7_layAway_12 : decode cX7_layAway 12 = .ok (.iload_n 2, 1) := by decide +kernel
theorem dX7_layAway_13 : decode cX7_layAway 13 = .ok (.iload_n 2, 1) := by decide +kernel
theorem dX7_layAway_14 : decode cX7_layAway 14 = .ok (.iload_n 1, 1) := by decide +kernel
theorem dX7_layAway_15 : decode cX7_layAway 15 = .ok (.if_icmp .ne 15, 3) := by decide +kernel
theorem dX7_layAway_18 : decode cX7_layAway 18 = .ok (.aload_n 0, 1) := by decide +kernel
theorem dX7_layAway_19 : decode cX7_layAway 19 = .ok (.iload_n 2, 1) := by decide +kernel
theorem dX7_layAway_20 : decode cX7_layAway 20 = .ok (.invokevirtual 92, 3) := by decide +kernel
theorem dX7_layAway_23 : decode cX7_layAway 23 = .ok (.ifCond .eq 7, 3) := by decide +kernel
theorem dX7_layAway_26 : decode cX7_layAway 26 = .ok (.iconst 0, 1) := by decide +kernel
theorem dX7_layAway_27 : decode cX7_layAway 27 = .ok (.goto 6, 3) := by decide +kernel
theorem dX7_layAway_30 : decode cX7_layAway 30 = .ok (.sipush 1000, 3) := by decide +kernel
theorem dX7_layAway_33 : decode cX7_layAway 33 = .ok (.iastore, 1) := by decide +kernel
theorem dX7_layAway_34 : decode cX7_layAway 34 = .ok (.iinc 2 1, 3) := by decide +kernel
theorem dX7_layAway_37 : decode cX7_layAway 37 = .ok (.goto (-35), 3) := by decide +kernel
theorem dX7_layAway_40 : decode cX7_layAway 40 = .ok (.iconst 1, 1) := by decide +kernel
theorem dX7_layAway_41 : decode cX7_layAway 41 = .ok (.istore_n 2, 1) := by decide +kernel
theorem dX7_layAway_42 : decode cX7_layAway 42 = .ok (.iload_n 2, 1) := by decide +kernel
theorem dX7_layAway_43 : decode cX7_layAway 43 = .ok (.ifCond .eq 200, 3) := by decide +kernel
theorem dX7_layAway_46 : decode cX7_layAway 46 = .ok (.iconst 0, 1) := by decide +kernel
theorem dX7_layAway_47 : decode cX7_layAway 47 = .ok (.istore_n 2, 1) := by decide +kernel
theorem dX7_layAway_48 : decode cX7_layAway 48 = .ok (.iconst 0, 1) := by decide +kernel
theorem dX7_layAway_49 : decode cX7_layAway 49 = .ok (.istore_n 3, 1) := by decide +kernel
theorem dX7_layAway_50 : decode cX7_layAway 50 = .ok (.iload_n 3, 1) := by decide +kernel
theorem dX7_layAway_51 : decode cX7_layAway 51 = .ok (.aload_n 0, 1) := by decide +kernel
theorem dX7_layAway_52 : decode cX7_layAway 52 = .ok (.getfield 7, 3) := by decide +kernel
theorem dX7_layAway_55 : decode cX7_layAway 55 = .ok (.bipush 7, 2) := by decide +kernel
theorem dX7_layAway_57 : decode cX7_layAway 57 = .ok (.iaload, 1) := by decide +kernel
theorem dX7_layAway_58 : decode cX7_layAway 58 = .ok (.if_icmp .ge 182, 3) := by decide +kernel
theorem dX7_layAway_61 : decode cX7_layAway 61 = .ok (.aload_n 0, 1) := by decide +kernel
theorem dX7_layAway_62 : decode cX7_layAway 62 = .ok (.iload_n 3, 1) := by decide +kernel
theorem dX7_layAway_63 : decode cX7_layAway 63 = .ok (.invokevirtual 53, 3) := by decide +kernel
theorem dX7_layAway_66 : decode cX7_layAway 66 = .ok (.istore 4, 2) := by decide +kernel
theorem dX7_layAway_68 : decode cX7_layAway 68 = .ok (.aload_n 0, 1) := by decide +kernel
theorem dX7_layAway_69 : decode cX7_layAway 69 = .ok (.aload_n 0, 1) := by decide +kernel
theorem dX7_layAway_70 : decode cX7_layAway 70 = .ok (.iload_n 3, 1) := by decide +kernel
theorem dX7_layAway_71 : decode cX7_layAway 71 = .ok (.invokevirtual 49, 3) := by decide +kernel
theorem dX7_layAway_74 : decode cX7_layAway 74 = .ok (.invokevirtual 53, 3) := by decide +kernel
theorem dX7_layAway_77 : decode cX7_layAway 77 = .ok (.istore 5, 2) := by decide +kernel
theorem dX7_layAway_79 : decode cX7_layAway 79 = .ok (.aload_n 0, 1) := by decide +kernel
theorem dX7_layAway_80 : decode cX7_layAway 80 = .ok (.getfield 35, 3) := by decide +kernel
theorem dX7_layAway_83 : decode cX7_layAway 83 = .ok (.iload 4, 2) := by decide +kernel
theorem dX7_layAway_85 : decode cX7_layAway 85 = .ok (.iaload, 1) := by decide +kernel
theorem dX7_layAway_86 : decode cX7_layAway 86 = .ok (.iconst 1, 1) := by decide +kernel
theorem dX7_layAway_87 : decode cX7_layAway 87 = .ok (.iadd, 1) := by decide +kernel
theorem dX7_layAway_88 : decode cX7_layAway 88 = .ok (.aload_n 0, 1) := by decide +kernel
theorem dX7_layAway_89 : decode cX7_layAway 89 = .ok (.getfield 35, 3) := by decide +kernel
theorem dX7_layAway_92 : decode cX7_layAway 92 = .ok (.iload 5, 2) := by decide +kernel
theorem dX7_layAway_94 : decode cX7_layAway 94 = .ok (.iaload, 1) := by decide +kernel
theorem dX7_layAway_95 : decode cX7_layAway 95 = .ok (.if_icmp .lt 22, 3) := by decide +kernel
theorem dX7_layAway_98 : decode cX7_layAway 98 = .ok (.aload_n 0, 1) := by decide +kernel
theorem dX7_layAway_99 : decode cX7_layAway 99 = .ok (.getfield 35, 3) := by decide +kernel
theorem dX7_layAway_102 : decode cX7_layAway 102 = .ok (.iload 5, 2) := by decide +kernel
theorem dX7_layAway_104 : decode cX7_layAway 104 = .ok (.iaload, 1) := by decide +kernel
theorem dX7_layAway_105 : decode cX7_layAway 105 = .ok (.iconst 1, 1) := by decide +kernel
theorem dX7_layAway_106 : decode cX7_layAway 106 = .ok (.iadd, 1) := by decide +kernel
theorem dX7_layAway_107 : decode cX7_layAway 107 = .ok (.aload_n 0, 1) := by decide +kernel
theorem dX7_layAway_108 : decode cX7_layAway 108 = .ok (.getfield 35, 3) := by decide +kernel
theorem dX7_layAway_111 : decode cX7_layAway 111 = .ok (.iload 4, 2) := by decide +kernel
theorem dX7_layAway_113 : decode cX7_layAway 113 = .ok (.iaload, 1) := by decide +kernel
theorem dX7_layAway_114 : decode cX7_layAway 114 = .ok (.if_icmp .ge 7, 3) := by decide +kernel
theorem dX7_layAway_117 : decode cX7_layAway 117 = .ok (.iconst 1, 1) := by decide +kernel
theorem dX7_layAway_118 : decode cX7_layAway 118 = .ok (.goto 4, 3) := by decide +kernel
theorem dX7_layAway_121 : decode cX7_layAway 121 = .ok (.iconst 0, 1) := by decide +kernel
theorem dX7_layAway_122 : decode cX7_layAway 122 = .ok (.istore 6, 2) := by decide +kernel
theorem dX7_layAway_124 : decode cX7_layAway 124 = .ok (.aload_n 0, 1) := by decide +kernel
theorem dX7_layAway_125 : decode cX7_layAway 125 = .ok (.getfield 35, 3) := by decide +kernel
theorem dX7_layAway_128 : decode cX7_layAway 128 = .ok (.iload 5, 2) := by decide +kernel
theorem dX7_layAway_130 : decode cX7_layAway 130 = .ok (.aload_n 0, 1) := by decide +kernel
theorem dX7_layAway_131 : decode cX7_layAway 131 = .ok (.getfield 35, 3) := by decide +kernel
theorem dX7_layAway_134 : decode cX7_layAway 134 = .ok (.iload 4, 2) := by decide +kernel
theorem dX7_layAway_136 : decode cX7_layAway 136 = .ok (.iaload, 1) := by decide +kernel
theorem dX7_layAway_137 : decode cX7_layAway 137 = .ok (.iconst 1, 1) := by decide +kernel
theorem dX7_layAway_138 : decode cX7_layAway 138 = .ok (.iadd, 1) := by decide +kernel
theorem dX7_layAway_139 : decode cX7_layAway 139 = .ok (.aload_n 0, 1) := by decide +kernel
theorem dX7_layAway_140 : decode cX7_layAway 140 = .ok (.getfield 35, 3) := by decide +kernel
theorem dX7_layAway_143 : decode cX7_layAway 143 = .ok (.iload 5, 2) := by decide +kernel
theorem dX7_layAway_145 : decode cX7_layAway 145 = .ok (.iaload, 1) := by decide +kernel
theorem dX7_layAway_146 : decode cX7_layAway 146 = .ok (.if_icmp .ge 15, 3) := by decide +kernel
theorem dX7_layAway_149 : decode cX7_layAway 149 = .ok (.aload_n 0, 1) := by decide +kernel
theorem dX7_layAway_150 : decode cX7_layAway 150 = .ok (.getfield 35, 3) := by decide +kernel
theorem dX7_layAway_153 : decode cX7_layAway 153 = .ok (.iload 4, 2) := by decide +kernel
theorem dX7_layAway_155 : decode cX7_layAway 155 = .ok (.iaload, 1) := by decide +kernel
theorem dX7_layAway_156 : decode cX7_layAway 156 = .ok (.iconst 1, 1) := by decide +kernel
theorem dX7_layAway_157 : decode cX7_layAway 157 = .ok (.iadd, 1) := by decide +kernel
theorem dX7_layAway_158 : decode cX7_layAway 158 = .ok (.goto 10, 3) := by decide +kernel
theorem dX7_layAway_161 : decode cX7_layAway 161 = .ok (.aload_n 0, 1) := by decide +kernel
theorem dX7_layAway_162 : decode cX7_layAway 162 = .ok (.getfield 35, 3) := by decide +kernel
theorem dX7_layAway_165 : decode cX7_layAway 165 = .ok (.iload 5, 2) := by decide +kernel
theorem dX7_layAway_167 : decode cX7_layAway 167 = .ok (.iaload, 1) := by decide +kernel
theorem dX7_layAway_168 : decode cX7_layAway 168 = .ok (.iastore, 1) := by decide +kernel
theorem dX7_layAway_169 : decode cX7_layAway 169 = .ok (.aload_n 0, 1) := by decide +kernel
theorem dX7_layAway_170 : decode cX7_layAway 170 = .ok (.getfield 35, 3) := by decide +kernel
theorem dX7_layAway_173 : decode cX7_layAway 173 = .ok (.iload 4, 2) := by decide +kernel
theorem dX7_layAway_175 : decode cX7_layAway 175 = .ok (.aload_n 0, 1) := by decide +kernel
theorem dX7_layAway_176 : decode cX7_layAway 176 = .ok (.getfield 35, 3) := by decide +kernel
theorem dX7_layAway_179 : decode cX7_layAway 179 = .ok (.iload 5, 2) := by decide +kernel
theorem dX7_layAway_181 : decode cX7_layAway 181 = .ok (.iaload, 1) := by decide +kernel
theorem dX7_layAway_182 : decode cX7_layAway 182 = .ok (.iconst 1, 1) := by decide +kernel
theorem dX7_layAway_183 : decode cX7_layAway 183 = .ok (.iadd, 1) := by decide +kernel
theorem dX7_layAway_184 : decode cX7_layAway 184 = .ok (.aload_n 0, 1) := by decide +kernel
theorem dX7_layAway_185 : decode cX7_layAway 185 = .ok (.getfield 35, 3) := by decide +kernel
theorem dX7_layAway_188 : decode cX7_layAway 188 = .ok (.iload 4, 2) := by decide +kernel
theorem dX7_layAway_190 : decode cX7_layAway 190 = .ok (.iaload, 1) := by decide +kernel
theorem dX7_layAway_191 : decode cX7_layAway 191 = .ok (.if_icmp .ge 15, 3) := by decide +kernel
theorem dX7_layAway_194 : decode cX7_layAway 194 = .ok (.aload_n 0, 1) := by decide +kernel
theorem dX7_layAway_195 : decode cX7_layAway 195 = .ok (.getfield 35, 3) := by decide +kernel
theorem dX7_layAway_198 : decode cX7_layAway 198 = .ok (.iload 5, 2) := by decide +kernel
theorem dX7_layAway_200 : decode cX7_layAway 200 = .ok (.iaload, 1) := by decide +kernel
theorem dX7_layAway_201 : decode cX7_layAway 201 = .ok (.iconst 1, 1) := by decide +kernel
theorem dX7_layAway_202 : decode cX7_layAway 202 = .ok (.iadd, 1) := by decide +kernel
theorem dX7_layAway_203 : decode cX7_layAway 203 = .ok (.goto 10, 3) := by decide +kernel
theorem dX7_layAway_206 : decode cX7_layAway 206 = .ok (.aload_n 0, 1) := by decide +kernel
theorem dX7_layAway_207 : decode cX7_layAway 207 = .ok (.getfield 35, 3) := by decide +kernel
theorem dX7_layAway_210 : decode cX7_layAway 210 = .ok (.iload 4, 2) := by decide +kernel
theorem dX7_layAway_212 : decode cX7_layAway 212 = .ok (.iaload, 1) := by decide +kernel
theorem dX7_layAway_213 : decode cX7_layAway 213 = .ok (.iastore, 1) := by decide +kernel
theorem dX7_layAway_214 : decode cX7_layAway 214 = .ok (.iload_n 2, 1) := by decide +kernel
theorem dX7_layAway_215 : decode cX7_layAway 215 = .ok (.ifCond .ne 8, 3) := by decide +kernel
theorem dX7_layAway_218 : decode cX7_layAway 218 = .ok (.iload 6, 2) := by decide +kernel
theorem dX7_layAway_220 : decode cX7_layAway 220 = .ok (.ifCond .eq 7, 3) := by decide +kernel
theorem dX7_layAway_223 : decode cX7_layAway 223 = .ok (.iconst 1, 1) := by decide +kernel
theorem dX7_layAway_224 : decode cX7_layAway 224 = .ok (.goto 4, 3) := by decide +kernel
theorem dX7_layAway_227 : decode cX7_layAway 227 = .ok (.iconst 0, 1) := by decide +kernel
theorem dX7_layAway_228 : decode cX7_layAway 228 = .ok (.istore_n 2, 1) := by decide +kernel
theorem dX7_layAway_229 : decode cX7_layAway 229 = .ok (.aload_n 0, 1) := by decide +kernel
theorem dX7_layAway_230 : decode cX7_layAway 230 = .ok (.iload_n 3, 1) := by decide +kernel
theorem dX7_layAway_231 : decode cX7_layAway 231 = .ok (.invokevirtual 49, 3) := by decide +kernel
theorem dX7_layAway_234 : decode cX7_layAway 234 = .ok (.iconst 1, 1) := by decide +kernel
theorem dX7_layAway_235 : decode cX7_layAway 235 = .ok (.iadd, 1) := by decide +kernel
theorem dX7_layAway_236 : decode cX7_layAway 236 = .ok (.istore_n 3, 1) := by decide +kernel
theorem dX7_layAway_237 : decode cX7_layAway 237 = .ok (.goto (-187), 3) := by decide +kernel
theorem dX7_layAway_240 : decode cX7_layAway 240 = .ok (.goto (-198), 3) := by decide +kernel
theorem dX7_layAway_243 : decode cX7_layAway 243 = .ok (.return_, 1) := by decide +kernel
theorem lg_wsX7_groups_0 : GoodIn wsX7_groups ([.fieldLink RX7 35 "MolesLawnModel" "away" "[I", .methodLink RX7 239 yX7_layAway, .instanceMethod yX7_layAway, .selects RX7 yX7_layAway yX7_layAway, .initialized RX7, .code yX7_layAway cX7_layAway 7 none, .fieldLink RX7 7 "MolesLawnModel" "s" "[I", .methodLink RX7 92 yX7_hasMound, .instanceMethod yX7_hasMound, .selects RX7 yX7_hasMound yX7_hasMound, .code yX7_hasMound cX7_hasMound 2 (some .boolean), .methodLink RX7 53 yX7_tuftAt, .instanceMethod yX7_tuftAt, .selects RX7 yX7_tuftAt yX7_tuftAt, .code yX7_tuftAt cX7_tuftAt 2 (some .int), .methodLink RX7 49 yX7_endFrom, .instanceMethod yX7_endFrom, .selects RX7 yX7_endFrom yX7_endFrom, .code yX7_endFrom cX7_endFrom 3 (some .int)] : List Cond) := goodIn_sub (fun _ h => (List.mem_cons_of_mem _ (List.mem_append_left _ h))) (by decide +kernel)
theorem ls_wsX7_groups_0 : GoodIn wsX7_groups wsX70 := goodIn_sub (fun _ h => (List.mem_cons_of_mem _ (List.mem_append_right _ h))) (by decide +kernel)
set_option maxRecDepth 20000 in
theorem ggX7_groups_X7_layAway : GoodIn wsX7_groups wsX7_layAway := (gi_cons (lg_wsX7_groups_0 _ (List.mem_of_getElem? (i := 5) rfl)) (goodIn_app (gi_cons (lg_wsX7_groups_0 _ (List.mem_of_getElem? (i := 0) rfl)) (gi_cons (lg_wsX7_groups_0 _ (List.mem_of_getElem? (i := 6) rfl)) (gi_cons (lg_wsX7_groups_0 _ (List.mem_of_getElem? (i := 7) rfl)) (gi_cons (lg_wsX7_groups_0 _ (List.mem_of_getElem? (i := 8) rfl)) (gi_cons (lg_wsX7_groups_0 _ (List.mem_of_getElem? (i := 9) rfl)) (gi_cons (lg_wsX7_groups_0 _ (List.mem_of_getElem? (i := 4) rfl)) (gi_cons (lg_wsX7_groups_0 _ (List.mem_of_getElem? (i := 10) rfl)) (gi_cons (lg_wsX7_groups_0 _ (List.mem_of_getElem? (i := 11) rfl)) (gi_cons (lg_wsX7_groups_0 _ (List.mem_of_getElem? (i := 12) rfl)) (gi_cons (lg_wsX7_groups_0 _ (List.mem_of_getElem? (i := 13) rfl)) (gi_cons (lg_wsX7_groups_0 _ (List.mem_of_getElem? (i := 14) rfl)) (gi_cons (lg_wsX7_groups_0 _ (List.mem_of_getElem? (i := 15) rfl)) (gi_cons (lg_wsX7_groups_0 _ (List.mem_of_getElem? (i := 16) rfl)) (gi_cons (lg_wsX7_groups_0 _ (List.mem_of_getElem? (i := 17) rfl)) (gi_cons (lg_wsX7_groups_0 _ (List.mem_of_getElem? (i := 18) rfl)) gi_nil))))))))))))))) ls_wsX7_groups_0))
set_option maxRecDepth 20000 in
theorem gX7_groups_X7_layAway : GoodIn wsX7_groups (wsV RX7 239 RX7 yX7_layAway wsX7_layAway) := goodIn_app (gi_cons (lg_wsX7_groups_0 _ (List.mem_of_getElem? (i := 1) rfl)) (gi_cons (lg_wsX7_groups_0 _ (List.mem_of_getElem? (i := 2) rfl)) (gi_cons (lg_wsX7_groups_0 _ (List.mem_of_getElem? (i := 3) rfl)) (gi_cons (lg_wsX7_groups_0 _ (List.mem_of_getElem? (i := 4) rfl)) gi_nil)))) ggX7_groups_X7_layAway
set_option maxRecDepth 20000 in
theorem ggX7_groups_X7_hasMound : GoodIn wsX7_groups wsX7_hasMound := (gi_cons (lg_wsX7_groups_0 _ (List.mem_of_getElem? (i := 10) rfl)) (goodIn_app (gi_cons (lg_wsX7_groups_0 _ (List.mem_of_getElem? (i := 6) rfl)) gi_nil) ls_wsX7_groups_0))
set_option maxRecDepth 20000 in
theorem gX7_groups_X7_hasMound : GoodIn wsX7_groups (wsV RX7 92 RX7 yX7_hasMound wsX7_hasMound) := goodIn_app (gi_cons (lg_wsX7_groups_0 _ (List.mem_of_getElem? (i := 7) rfl)) (gi_cons (lg_wsX7_groups_0 _ (List.mem_of_getElem? (i := 8) rfl)) (gi_cons (lg_wsX7_groups_0 _ (List.mem_of_getElem? (i := 9) rfl)) (gi_cons (lg_wsX7_groups_0 _ (List.mem_of_getElem? (i := 4) rfl)) gi_nil)))) ggX7_groups_X7_hasMound
theorem dX7_groups_0 : decode cX7_groups 0 = .ok (.iconst 0, 1) := by decide +kernel
theorem dX7_groups_1 : decode cX7_groups 1 = .ok (.istore_n 1, 1) := by decide +kernel
theorem dX7_groups_2 : decode cX7_groups 2 = .ok (.iconst 0, 1) := by decide +kernel
theorem dX7_groups_3 : decode cX7_groups 3 = .ok (.istore_n 2, 1) := by decide +kernel
theorem dX7_groups_4 : decode cX7_groups 4 = .ok (.iload_n 2, 1) := by decide +kernel
theorem dX7_groups_5 : decode cX7_groups 5 = .ok (.bipush 64, 2) := by decide +kernel
theorem dX7_groups_7 : decode cX7_groups 7 = .ok (.if_icmp .ge 70, 3) := by decide +kernel
theorem dX7_groups_10 : decode cX7_groups 10 = .ok (.aload_n 0, 1) := by decide +kernel
theorem dX7_groups_11 : decode cX7_groups 11 = .ok (.iload_n 2, 1) := by decide +kernel
theorem dX7_groups_12 : decode cX7_groups 12 = .ok (.invokevirtual 239, 3) := by decide +kernel
theorem dX7_groups_15 : decode cX7_groups 15 = .ok (.aload_n 0, 1) := by decide +kernel
theorem dX7_groups_16 : decode cX7_groups 16 = .ok (.iload_n 2, 1) := by decide +kernel
theorem dX7_groups_17 : decode cX7_groups 17 = .ok (.invokevirtual 92, 3) := by decide +kernel
theorem dX7_groups_20 : decode cX7_groups 20 = .ok (.istore_n 3, 1) := by decide +kernel
theorem dX7_groups_21 : decode cX7_groups 21 = .ok (.iconst 0, 1) := by decide +kernel
theorem dX7_groups_22 : decode cX7_groups 22 = .ok (.istore 4, 2) := by decide +kernel
theorem dX7_groups_24 : decode cX7_groups 24 = .ok (.iload 4, 2) := by decide +kernel
theorem dX7_groups_26 : decode cX7_groups 26 = .ok (.iload_n 2, 1) := by decide +kernel
theorem dX7_groups_27 : decode cX7_groups 27 = .ok (.if_icmp .ge 32, 3) := by decide +kernel
theorem dX7_groups_30 : decode cX7_groups 30 = .ok (.iload_n 3, 1) := by decide +kernel
theorem dX7_groups_31 : decode cX7_groups 31 = .ok (.ifCond .eq 20, 3) := by decide +kernel
theorem dX7_groups_34 : decode cX7_groups 34 = .ok (.aload_n 0, 1) := by decide +kernel
theorem dX7_groups_35 : decode cX7_groups 35 = .ok (.getfield 35, 3) := by decide +kernel
theorem dX7_groups_38 : decode cX7_groups 38 = .ok (.iload 4, 2) := by decide +kernel
theorem dX7_groups_40 : decode cX7_groups 40 = .ok (.iaload, 1) := by decide +kernel
theorem dX7_groups_41 : decode cX7_groups 41 = .ok (.sipush 1000, 3) := by decide +kernel
theorem dX7_groups_44 : decode cX7_groups 44 = .ok (.if_icmp .ne 7, 3) := by decide +kernel
theorem dX7_groups_47 : decode cX7_groups 47 = .ok (.iconst 1, 1) := by decide +kernel
theorem dX7_groups_48 : decode cX7_groups 48 = .ok (.goto 4, 3) := by decide +kernel
theorem dX7_groups_51 : decode cX7_groups 51 = .ok (.iconst 0, 1) := by decide +kernel
theorem dX7_groups_52 : decode cX7_groups 52 = .ok (.istore_n 3, 1) := by decide +kernel
theorem dX7_groups_53 : decode cX7_groups 53 = .ok (.iinc 4 1, 3) := by decide +kernel
theorem dX7_groups_56 : decode cX7_groups 56 = .ok (.goto (-32), 3) := by decide +kernel
theorem dX7_groups_59 : decode cX7_groups 59 = .ok (.iload_n 1, 1) := by decide +kernel
theorem dX7_groups_60 : decode cX7_groups 60 = .ok (.iload_n 3, 1) := by decide +kernel
theorem dX7_groups_61 : decode cX7_groups 61 = .ok (.ifCond .eq 7, 3) := by decide +kernel
theorem dX7_groups_64 : decode cX7_groups 64 = .ok (.iconst 1, 1) := by decide +kernel
theorem dX7_groups_65 : decode cX7_groups 65 = .ok (.goto 4, 3) := by decide +kernel
theorem dX7_groups_68 : decode cX7_groups 68 = .ok (.iconst 0, 1) := by decide +kernel
theorem dX7_groups_69 : decode cX7_groups 69 = .ok (.iadd, 1) := by decide +kernel
theorem dX7_groups_70 : decode cX7_groups 70 = .ok (.istore_n 1, 1) := by decide +kernel
theorem dX7_groups_71 : decode cX7_groups 71 = .ok (.iinc 2 1, 3) := by decide +kernel
theorem dX7_groups_74 : decode cX7_groups 74 = .ok (.goto (-70), 3) := by decide +kernel
theorem dX7_groups_77 : decode cX7_groups 77 = .ok (.iload_n 1, 1) := by decide +kernel
theorem dX7_groups_78 : decode cX7_groups 78 = .ok (.ireturn, 1) := by decide +kernel
theorem dX7_sumOf_0 : decode cX7_sumOf 0 = .ok (.iconst 0, 1) := by decide +kernel
theorem dX7_sumOf_1 : decode cX7_sumOf 1 = .ok (.istore_n 2, 1) := by decide +kernel
theorem dX7_sumOf_2 : decode cX7_sumOf 2 = .ok (.iconst 0, 1) := by decide +kernel
theorem dX7_sumOf_3 : decode cX7_sumOf 3 = .ok (.istore_n 3, 1) := by decide +kernel
theorem dX7_sumOf_4 : decode cX7_sumOf 4 = .ok (.iload_n 3, 1) := by decide +kernel
theorem dX7_sumOf_5 : decode cX7_sumOf 5 = .ok (.bipush 64, 2) := by decide +kernel
theorem dX7_sumOf_7 : decode cX7_sumOf 7 = .ok (.if_icmp .ge 28, 3) := by decide +kernel
theorem dX7_sumOf_10 : decode cX7_sumOf 10 = .ok (.iload_n 2, 1) := by decide +kernel
theorem dX7_sumOf_11 : decode cX7_sumOf 11 = .ok (.aload_n 0, 1) := by decide +kernel
theorem dX7_sumOf_12 : decode cX7_sumOf 12 = .ok (.getfield 7, 3) := by decide +kernel
theorem dX7_sumOf_15 : decode cX7_sumOf 15 = .ok (.iload_n 1, 1) := by decide +kernel
theorem dX7_sumOf_16 : decode cX7_sumOf 16 = .ok (.iload_n 3, 1) := by decide +kernel
theorem dX7_sumOf_17 : decode cX7_sumOf 17 = .ok (.iadd, 1) := by decide +kernel
theorem dX7_sumOf_18 : decode cX7_sumOf 18 = .ok (.iaload, 1) := by decide +kernel
theorem dX7_sumOf_19 : decode cX7_sumOf 19 = .ok (.ifCond .le 7, 3) := by decide +kernel
theorem dX7_sumOf_22 : decode cX7_sumOf 22 = .ok (.iconst 1, 1) := by decide +kernel
theorem dX7_sumOf_23 : decode cX7_sumOf 23 = .ok (.goto 4, 3) := by decide +kernel
theorem dX7_sumOf_26 : decode cX7_sumOf 26 = .ok (.iconst 0, 1) := by decide +kernel
theorem dX7_sumOf_27 : decode cX7_sumOf 27 = .ok (.iadd, 1) := by decide +kernel
theorem dX7_sumOf_28 : decode cX7_sumOf 28 = .ok (.istore_n 2, 1) := by decide +kernel
theorem dX7_sumOf_29 : decode cX7_sumOf 29 = .ok (.iinc 3 1, 3) := by decide +kernel
theorem dX7_sumOf_32 : decode cX7_sumOf 32 = .ok (.goto (-28), 3) := by decide +kernel
theorem dX7_sumOf_35 : decode cX7_sumOf 35 = .ok (.iload_n 2, 1) := by decide +kernel
theorem dX7_sumOf_36 : decode cX7_sumOf 36 = .ok (.ireturn, 1) := by decide +kernel
theorem lg_wsX7_counted_0 : GoodIn wsX7_counted wsX7_counted_r1 := goodIn_sub (fun _ h => (List.mem_cons_of_mem _ (List.mem_append_left _ (List.mem_append_left _ h)))) (by decide +kernel)
theorem lg_wsX7_counted_1 : GoodIn wsX7_counted wsX7_counted_r2 := goodIn_sub (fun _ h => (List.mem_cons_of_mem _ (List.mem_append_left _ (List.mem_append_right _ h)))) (by decide +kernel)
theorem ls_wsX7_counted_0 : GoodIn wsX7_counted wsX70 := goodIn_sub (fun _ h => (List.mem_cons_of_mem _ (List.mem_append_right _ h))) (by decide +kernel)
set_option maxRecDepth 20000 in
theorem ggX7_counted_X7_sumOf : GoodIn wsX7_counted wsX7_sumOf := (gi_cons (lg_wsX7_counted_0 _ (List.mem_of_getElem? (i := 6) rfl)) (goodIn_app (gi_cons (lg_wsX7_counted_0 _ (List.mem_of_getElem? (i := 0) rfl)) gi_nil) ls_wsX7_counted_0))
set_option maxRecDepth 20000 in
theorem gX7_counted_X7_sumOf : GoodIn wsX7_counted (wsV RX7 242 RX7 yX7_sumOf wsX7_sumOf) := goodIn_app (gi_cons (lg_wsX7_counted_0 _ (List.mem_of_getElem? (i := 2) rfl)) (gi_cons (lg_wsX7_counted_0 _ (List.mem_of_getElem? (i := 3) rfl)) (gi_cons (lg_wsX7_counted_0 _ (List.mem_of_getElem? (i := 4) rfl)) (gi_cons (lg_wsX7_counted_0 _ (List.mem_of_getElem? (i := 5) rfl)) gi_nil)))) ggX7_counted_X7_sumOf
set_option maxRecDepth 20000 in
theorem ggX7_counted_X7_tunnels : GoodIn wsX7_counted wsX7_tunnels := (gi_cons (lg_wsX7_counted_0 _ (List.mem_of_getElem? (i := 10) rfl)) (goodIn_app (gi_cons (lg_wsX7_counted_0 _ (List.mem_of_getElem? (i := 0) rfl)) gi_nil) ls_wsX7_counted_0))
set_option maxRecDepth 20000 in
theorem gX7_counted_X7_tunnels : GoodIn wsX7_counted (wsV RX7 194 RX7 yX7_tunnels wsX7_tunnels) := goodIn_app (gi_cons (lg_wsX7_counted_0 _ (List.mem_of_getElem? (i := 7) rfl)) (gi_cons (lg_wsX7_counted_0 _ (List.mem_of_getElem? (i := 8) rfl)) (gi_cons (lg_wsX7_counted_0 _ (List.mem_of_getElem? (i := 9) rfl)) (gi_cons (lg_wsX7_counted_0 _ (List.mem_of_getElem? (i := 5) rfl)) gi_nil)))) ggX7_counted_X7_tunnels
set_option maxRecDepth 20000 in
theorem ggX7_counted_X7_hollow : GoodIn wsX7_counted wsX7_hollow := (gi_cons (lg_wsX7_counted_0 _ (List.mem_of_getElem? (i := 14) rfl)) (goodIn_app (gi_cons (lg_wsX7_counted_0 _ (List.mem_of_getElem? (i := 15) rfl)) (gi_cons (lg_wsX7_counted_0 _ (List.mem_of_getElem? (i := 16) rfl)) (gi_cons (lg_wsX7_counted_0 _ (List.mem_of_getElem? (i := 17) rfl)) (gi_cons (lg_wsX7_counted_0 _ (List.mem_of_getElem? (i := 18) rfl)) (gi_cons (lg_wsX7_counted_0 _ (List.mem_of_getElem? (i := 5) rfl)) (gi_cons (lg_wsX7_counted_0 _ (List.mem_of_getElem? (i := 19) rfl)) (gi_cons (lg_wsX7_counted_0 _ (List.mem_of_getElem? (i := 0) rfl)) (gi_cons (lg_wsX7_counted_0 _ (List.mem_of_getElem? (i := 20) rfl)) (gi_cons (lg_wsX7_counted_0 _ (List.mem_of_getElem? (i := 21) rfl)) (gi_cons (lg_wsX7_counted_0 _ (List.mem_of_getElem? (i := 22) rfl)) (gi_cons (lg_wsX7_counted_0 _ (List.mem_of_getElem? (i := 23) rfl)) (gi_cons (lg_wsX7_counted_1 _ (List.mem_of_getElem? (i := 0) rfl)) (gi_cons (lg_wsX7_counted_1 _ (List.mem_of_getElem? (i := 1) rfl)) (gi_cons (lg_wsX7_counted_1 _ (List.mem_of_getElem? (i := 2) rfl)) gi_nil)))))))))))))) ls_wsX7_counted_0))
set_option maxRecDepth 20000 in
theorem gX7_counted_X7_hollow : GoodIn wsX7_counted (wsV RX7 245 RX7 yX7_hollow wsX7_hollow) := goodIn_app (gi_cons (lg_wsX7_counted_0 _ (List.mem_of_getElem? (i := 11) rfl)) (gi_cons (lg_wsX7_counted_0 _ (List.mem_of_getElem? (i := 12) rfl)) (gi_cons (lg_wsX7_counted_0 _ (List.mem_of_getElem? (i := 13) rfl)) (gi_cons (lg_wsX7_counted_0 _ (List.mem_of_getElem? (i := 5) rfl)) gi_nil)))) ggX7_counted_X7_hollow
set_option maxRecDepth 20000 in
theorem ggX7_counted_X7_traps : GoodIn wsX7_counted wsX7_traps := (gi_cons (lg_wsX7_counted_1 _ (List.mem_of_getElem? (i := 6) rfl)) (goodIn_app (gi_cons (lg_wsX7_counted_0 _ (List.mem_of_getElem? (i := 0) rfl)) gi_nil) ls_wsX7_counted_0))
set_option maxRecDepth 20000 in
theorem gX7_counted_X7_traps : GoodIn wsX7_counted (wsV RX7 138 RX7 yX7_traps wsX7_traps) := goodIn_app (gi_cons (lg_wsX7_counted_1 _ (List.mem_of_getElem? (i := 3) rfl)) (gi_cons (lg_wsX7_counted_1 _ (List.mem_of_getElem? (i := 4) rfl)) (gi_cons (lg_wsX7_counted_1 _ (List.mem_of_getElem? (i := 5) rfl)) (gi_cons (lg_wsX7_counted_0 _ (List.mem_of_getElem? (i := 5) rfl)) gi_nil)))) ggX7_counted_X7_traps
set_option maxRecDepth 20000 in
theorem ggX7_counted_X7_groups : GoodIn wsX7_counted wsX7_groups := (gi_cons (lg_wsX7_counted_1 _ (List.mem_of_getElem? (i := 10) rfl)) (goodIn_app (gi_cons (lg_wsX7_counted_1 _ (List.mem_of_getElem? (i := 11) rfl)) (gi_cons (lg_wsX7_counted_1 _ (List.mem_of_getElem? (i := 12) rfl)) (gi_cons (lg_wsX7_counted_1 _ (List.mem_of_getElem? (i := 13) rfl)) (gi_cons (lg_wsX7_counted_1 _ (List.mem_of_getElem? (i := 14) rfl)) (gi_cons (lg_wsX7_counted_0 _ (List.mem_of_getElem? (i := 5) rfl)) (gi_cons (lg_wsX7_counted_1 _ (List.mem_of_getElem? (i := 15) rfl)) (gi_cons (lg_wsX7_counted_0 _ (List.mem_of_getElem? (i := 0) rfl)) (gi_cons (lg_wsX7_counted_1 _ (List.mem_of_getElem? (i := 16) rfl)) (gi_cons (lg_wsX7_counted_1 _ (List.mem_of_getElem? (i := 17) rfl)) (gi_cons (lg_wsX7_counted_1 _ (List.mem_of_getElem? (i := 18) rfl)) (gi_cons (lg_wsX7_counted_1 _ (List.mem_of_getElem? (i := 19) rfl)) (gi_cons (lg_wsX7_counted_0 _ (List.mem_of_getElem? (i := 20) rfl)) (gi_cons (lg_wsX7_counted_0 _ (List.mem_of_getElem? (i := 21) rfl)) (gi_cons (lg_wsX7_counted_0 _ (List.mem_of_getElem? (i := 22) rfl)) (gi_cons (lg_wsX7_counted_0 _ (List.mem_of_getElem? (i := 23) rfl)) (gi_cons (lg_wsX7_counted_1 _ (List.mem_of_getElem? (i := 20) rfl)) (gi_cons (lg_wsX7_counted_1 _ (List.mem_of_getElem? (i := 21) rfl)) (gi_cons (lg_wsX7_counted_1 _ (List.mem_of_getElem? (i := 22) rfl)) (gi_cons (lg_wsX7_counted_1 _ (List.mem_of_getElem? (i := 23) rfl)) gi_nil))))))))))))))))))) ls_wsX7_counted_0))
set_option maxRecDepth 20000 in
theorem gX7_counted_X7_groups : GoodIn wsX7_counted (wsV RX7 248 RX7 yX7_groups wsX7_groups) := goodIn_app (gi_cons (lg_wsX7_counted_1 _ (List.mem_of_getElem? (i := 7) rfl)) (gi_cons (lg_wsX7_counted_1 _ (List.mem_of_getElem? (i := 8) rfl)) (gi_cons (lg_wsX7_counted_1 _ (List.mem_of_getElem? (i := 9) rfl)) (gi_cons (lg_wsX7_counted_0 _ (List.mem_of_getElem? (i := 5) rfl)) gi_nil)))) ggX7_counted_X7_groups
theorem dX7_counted_0 : decode cX7_counted 0 = .ok (.iload_n 1, 1) := by decide +kernel
theorem dX7_counted_1 : decode cX7_counted 1 = .ok (.tableswitch 140 0 13 #[71, 71, 71, 78, 85, 90, 95, 103, 108, 115, 115, 115, 127, 132], 71) := by decide +kernel
theorem dX7_counted_72 : decode cX7_counted 72 = .ok (.aload_n 0, 1) := by decide +kernel
theorem dX7_counted_73 : decode cX7_counted 73 = .ok (.getfield 7, 3) := by decide +kernel
theorem dX7_counted_76 : decode cX7_counted 76 = .ok (.iload_n 1, 1) := by decide +kernel
theorem dX7_counted_77 : decode cX7_counted 77 = .ok (.iaload, 1) := by decide +kernel
theorem dX7_counted_78 : decode cX7_counted 78 = .ok (.ireturn, 1) := by decide +kernel
theorem dX7_counted_79 : decode cX7_counted 79 = .ok (.aload_n 0, 1) := by decide +kernel
theorem dX7_counted_80 : decode cX7_counted 80 = .ok (.bipush 8, 2) := by decide +kernel
theorem dX7_counted_82 : decode cX7_counted 82 = .ok (.invokevirtual 242, 3) := by decide +kernel
theorem dX7_counted_85 : decode cX7_counted 85 = .ok (.ireturn, 1) := by decide +kernel
theorem dX7_counted_86 : decode cX7_counted 86 = .ok (.aload_n 0, 1) := by decide +kernel
theorem dX7_counted_87 : decode cX7_counted 87 = .ok (.invokevirtual 194, 3) := by decide +kernel
theorem dX7_counted_90 : decode cX7_counted 90 = .ok (.ireturn, 1) := by decide +kernel
theorem dX7_counted_91 : decode cX7_counted 91 = .ok (.aload_n 0, 1) := by decide +kernel
theorem dX7_counted_92 : decode cX7_counted 92 = .ok (.invokevirtual 245, 3) := by decide +kernel
theorem dX7_counted_95 : decode cX7_counted 95 = .ok (.ireturn, 1) := by decide +kernel
theorem dX7_counted_96 : decode cX7_counted 96 = .ok (.aload_n 0, 1) := by decide +kernel
theorem dX7_counted_97 : decode cX7_counted 97 = .ok (.sipush 200, 3) := by decide +kernel
theorem dX7_counted_100 : decode cX7_counted 100 = .ok (.invokevirtual 242, 3) := by decide +kernel
theorem dX7_counted_103 : decode cX7_counted 103 = .ok (.ireturn, 1) := by decide +kernel
theorem dX7_counted_104 : decode cX7_counted 104 = .ok (.aload_n 0, 1) := by decide +kernel
theorem dX7_counted_105 : decode cX7_counted 105 = .ok (.invokevirtual 138, 3) := by decide +kernel
theorem dX7_counted_108 : decode cX7_counted 108 = .ok (.ireturn, 1) := by decide +kernel
theorem dX7_counted_109 : decode cX7_counted 109 = .ok (.aload_n 0, 1) := by decide +kernel
theorem dX7_counted_110 : decode cX7_counted 110 = .ok (.bipush 72, 2) := by decide +kernel
theorem dX7_counted_112 : decode cX7_counted 112 = .ok (.invokevirtual 242, 3) := by decide +kernel
theorem dX7_counted_115 : decode cX7_counted 115 = .ok (.ireturn, 1) := by decide +kernel
theorem dX7_counted_116 : decode cX7_counted 116 = .ok (.aload_n 0, 1) := by decide +kernel
theorem dX7_counted_117 : decode cX7_counted 117 = .ok (.getfield 7, 3) := by decide +kernel
theorem dX7_counted_120 : decode cX7_counted 120 = .ok (.iconst 3, 1) := by decide +kernel
theorem dX7_counted_121 : decode cX7_counted 121 = .ok (.iload_n 1, 1) := by decide +kernel
theorem dX7_counted_122 : decode cX7_counted 122 = .ok (.iadd, 1) := by decide +kernel
theorem dX7_counted_123 : decode cX7_counted 123 = .ok (.bipush 9, 2) := by decide +kernel
theorem dX7_counted_125 : decode cX7_counted 125 = .ok (.isub, 1) := by decide +kernel
theorem dX7_counted_126 : decode cX7_counted 126 = .ok (.iaload, 1) := by decide +kernel
theorem dX7_counted_127 : decode cX7_counted 127 = .ok (.ireturn, 1) := by decide +kernel
theorem dX7_counted_128 : decode cX7_counted 128 = .ok (.aload_n 0, 1) := by decide +kernel
theorem dX7_counted_129 : decode cX7_counted 129 = .ok (.invokevirtual 248, 3) := by decide +kernel
theorem dX7_counted_132 : decode cX7_counted 132 = .ok (.ireturn, 1) := by decide +kernel
theorem dX7_counted_133 : decode cX7_counted 133 = .ok (.aload_n 0, 1) := by decide +kernel
theorem dX7_counted_134 : decode cX7_counted 134 = .ok (.getfield 7, 3) := by decide +kernel
theorem dX7_counted_137 : decode cX7_counted 137 = .ok (.bipush 6, 2) := by decide +kernel
theorem dX7_counted_139 : decode cX7_counted 139 = .ok (.iaload, 1) := by decide +kernel
theorem dX7_counted_140 : decode cX7_counted 140 = .ok (.ireturn, 1) := by decide +kernel
theorem dX7_counted_141 : decode cX7_counted 141 = .ok (.aload_n 0, 1) := by decide +kernel
theorem dX7_counted_142 : decode cX7_counted 142 = .ok (.getfield 46, 3) := by decide +kernel
theorem dX7_counted_145 : decode cX7_counted 145 = .ok (.ireturn, 1) := by decide +kernel
theorem lg_wsX7_count_0 : GoodIn wsX7_count wsX7_count_r1 := goodIn_sub (fun _ h => (List.mem_cons_of_mem _ (List.mem_append_left _ (List.mem_append_left _ h)))) (by decide +kernel)
theorem lg_wsX7_count_1 : GoodIn wsX7_count wsX7_count_r2 := goodIn_sub (fun _ h => (List.mem_cons_of_mem _ (List.mem_append_left _ (List.mem_append_right _ (List.mem_append_left _ h))))) (by decide +kernel)
theorem lg_wsX7_count_2 : GoodIn wsX7_count wsX7_count_r3 := goodIn_sub (fun _ h => (List.mem_cons_of_mem _ (List.mem_append_left _ (List.mem_append_right _ (List.mem_append_right _ h))))) (by decide +kernel)
theorem ls_wsX7_count_0 : GoodIn wsX7_count wsX70 := goodIn_sub (fun _ h => (List.mem_cons_of_mem _ (List.mem_append_right _ h))) (by decide +kernel)
set_option maxRecDepth 20000 in
theorem ggX7_count_X7_in : GoodIn wsX7_count wsX7_in := (gi_cons (lg_wsX7_count_0 _ (List.mem_of_getElem? (i := 3) rfl)) gi_nil)
set_option maxRecDepth 20000 in
theorem gX7_count_X7_in : GoodIn wsX7_count (va_wsS RX7 42 yX7_in wsX7_in) := goodIn_app (gi_cons (lg_wsX7_count_0 _ (List.mem_of_getElem? (i := 0) rfl)) (gi_cons (lg_wsX7_count_0 _ (List.mem_of_getElem? (i := 1) rfl)) (gi_cons (lg_wsX7_count_0 _ (List.mem_of_getElem? (i := 2) rfl)) gi_nil))) ggX7_count_X7_in
set_option maxRecDepth 20000 in
theorem ggX7_count_X7_holds : GoodIn wsX7_count wsX7_holds := (gi_cons (lg_wsX7_count_0 _ (List.mem_of_getElem? (i := 7) rfl)) (goodIn_app (gi_cons (lg_wsX7_count_0 _ (List.mem_of_getElem? (i := 8) rfl)) gi_nil) ls_wsX7_count_0))
set_option maxRecDepth 20000 in
theorem gX7_count_X7_holds : GoodIn wsX7_count (wsV RX7 123 RX7 yX7_holds wsX7_holds) := goodIn_app (gi_cons (lg_wsX7_count_0 _ (List.mem_of_getElem? (i := 4) rfl)) (gi_cons (lg_wsX7_count_0 _ (List.mem_of_getElem? (i := 5) rfl)) (gi_cons (lg_wsX7_count_0 _ (List.mem_of_getElem? (i := 6) rfl)) (gi_cons (lg_wsX7_count_0 _ (List.mem_of_getElem? (i := 2) rfl)) gi_nil)))) ggX7_count_X7_holds
set_option maxRecDepth 20000 in
theorem ggX7_count_X7_counted : GoodIn wsX7_count wsX7_counted := (gi_cons (lg_wsX7_count_0 _ (List.mem_of_getElem? (i := 12) rfl)) (goodIn_app (goodIn_app (gi_cons (lg_wsX7_count_0 _ (List.mem_of_getElem? (i := 13) rfl)) (gi_cons (lg_wsX7_count_0 _ (List.mem_of_getElem? (i := 14) rfl)) (gi_cons (lg_wsX7_count_0 _ (List.mem_of_getElem? (i := 15) rfl)) (gi_cons (lg_wsX7_count_0 _ (List.mem_of_getElem? (i := 16) rfl)) (gi_cons (lg_wsX7_count_0 _ (List.mem_of_getElem? (i := 17) rfl)) (gi_cons (lg_wsX7_count_0 _ (List.mem_of_getElem? (i := 2) rfl)) (gi_cons (lg_wsX7_count_0 _ (List.mem_of_getElem? (i := 18) rfl)) (gi_cons (lg_wsX7_count_0 _ (List.mem_of_getElem? (i := 19) rfl)) (gi_cons (lg_wsX7_count_0 _ (List.mem_of_getElem? (i := 20) rfl)) (gi_cons (lg_wsX7_count_0 _ (List.mem_of_getElem? (i := 21) rfl)) (gi_cons (lg_wsX7_count_0 _ (List.mem_of_getElem? (i := 22) rfl)) (gi_cons (lg_wsX7_count_0 _ (List.mem_of_getElem? (i := 23) rfl)) (gi_cons (lg_wsX7_count_1 _ (List.mem_of_getElem? (i := 0) rfl)) (gi_cons (lg_wsX7_count_1 _ (List.mem_of_getElem? (i := 1) rfl)) (gi_cons (lg_wsX7_count_1 _ (List.mem_of_getElem? (i := 2) rfl)) (gi_cons (lg_wsX7_count_1 _ (List.mem_of_getElem? (i := 3) rfl)) (gi_cons (lg_wsX7_count_1 _ (List.mem_of_getElem? (i := 4) rfl)) (gi_cons (lg_wsX7_count_1 _ (List.mem_of_getElem? (i := 5) rfl)) (gi_cons (lg_wsX7_count_1 _ (List.mem_of_getElem? (i := 6) rfl)) (gi_cons (lg_wsX7_count_1 _ (List.mem_of_getElem? (i := 7) rfl)) (gi_cons (lg_wsX7_count_1 _ (List.mem_of_getElem? (i := 8) rfl)) (gi_cons (lg_wsX7_count_1 _ (List.mem_of_getElem? (i := 9) rfl)) (gi_cons (lg_wsX7_count_1 _ (List.mem_of_getElem? (i := 10) rfl)) (gi_cons (lg_wsX7_count_1 _ (List.mem_of_getElem? (i := 11) rfl)) gi_nil)))))))))))))))))))))))) (gi_cons (lg_wsX7_count_1 _ (List.mem_of_getElem? (i := 12) rfl)) (gi_cons (lg_wsX7_count_1 _ (List.mem_of_getElem? (i := 13) rfl)) (gi_cons (lg_wsX7_count_1 _ (List.mem_of_getElem? (i := 14) rfl)) (gi_cons (lg_wsX7_count_1 _ (List.mem_of_getElem? (i := 15) rfl)) (gi_cons (lg_wsX7_count_1 _ (List.mem_of_getElem? (i := 16) rfl)) (gi_cons (lg_wsX7_count_1 _ (List.mem_of_getElem? (i := 17) rfl)) (gi_cons (lg_wsX7_count_1 _ (List.mem_of_getElem? (i := 18) rfl)) (gi_cons (lg_wsX7_count_1 _ (List.mem_of_getElem? (i := 19) rfl)) (gi_cons (lg_wsX7_count_1 _ (List.mem_of_getElem? (i := 20) rfl)) (gi_cons (lg_wsX7_count_1 _ (List.mem_of_getElem? (i := 21) rfl)) (gi_cons (lg_wsX7_count_1 _ (List.mem_of_getElem? (i := 22) rfl)) (gi_cons (lg_wsX7_count_1 _ (List.mem_of_getElem? (i := 23) rfl)) (gi_cons (lg_wsX7_count_2 _ (List.mem_of_getElem? (i := 0) rfl)) (gi_cons (lg_wsX7_count_2 _ (List.mem_of_getElem? (i := 1) rfl)) (gi_cons (lg_wsX7_count_2 _ (List.mem_of_getElem? (i := 2) rfl)) (gi_cons (lg_wsX7_count_2 _ (List.mem_of_getElem? (i := 3) rfl)) (gi_cons (lg_wsX7_count_2 _ (List.mem_of_getElem? (i := 4) rfl)) (gi_cons (lg_wsX7_count_2 _ (List.mem_of_getElem? (i := 5) rfl)) (gi_cons (lg_wsX7_count_2 _ (List.mem_of_getElem? (i := 6) rfl)) (gi_cons (lg_wsX7_count_2 _ (List.mem_of_getElem? (i := 7) rfl)) (gi_cons (lg_wsX7_count_2 _ (List.mem_of_getElem? (i := 8) rfl)) (gi_cons (lg_wsX7_count_2 _ (List.mem_of_getElem? (i := 9) rfl)) (gi_cons (lg_wsX7_count_2 _ (List.mem_of_getElem? (i := 10) rfl)) (gi_cons (lg_wsX7_count_2 _ (List.mem_of_getElem? (i := 11) rfl)) gi_nil))))))))))))))))))))))))) ls_wsX7_count_0))
set_option maxRecDepth 20000 in
theorem gX7_count_X7_counted : GoodIn wsX7_count (wsV RX7 251 RX7 yX7_counted wsX7_counted) := goodIn_app (gi_cons (lg_wsX7_count_0 _ (List.mem_of_getElem? (i := 9) rfl)) (gi_cons (lg_wsX7_count_0 _ (List.mem_of_getElem? (i := 10) rfl)) (gi_cons (lg_wsX7_count_0 _ (List.mem_of_getElem? (i := 11) rfl)) (gi_cons (lg_wsX7_count_0 _ (List.mem_of_getElem? (i := 2) rfl)) gi_nil)))) ggX7_count_X7_counted
theorem dX7_count_0 : decode cX7_count 0 = .ok (.aload_n 0, 1) := by decide +kernel
theorem dX7_count_1 : decode cX7_count 1 = .ok (.iload_n 1, 1) := by decide +kernel
theorem dX7_count_2 : decode cX7_count 2 = .ok (.iconst 0, 1) := by decide +kernel
theorem dX7_count_3 : decode cX7_count 3 = .ok (.bipush 14, 2) := by decide +kernel
theorem dX7_count_5 : decode cX7_count 5 = .ok (.invokestatic 42, 3) := by decide +kernel
theorem dX7_count_8 : decode cX7_count 8 = .ok (.ifCond .eq 7, 3) := by decide +kernel
theorem dX7_count_11 : decode cX7_count 11 = .ok (.iconst 0, 1) := by decide +kernel
theorem dX7_count_12 : decode cX7_count 12 = .ok (.goto 4, 3) := by decide +kernel
theorem dX7_count_15 : decode cX7_count 15 = .ok (.iconst 1, 1) := by decide +kernel
theorem dX7_count_16 : decode cX7_count 16 = .ok (.invokevirtual 123, 3) := by decide +kernel
theorem dX7_count_19 : decode cX7_count 19 = .ok (.ifCond .eq 11, 3) := by decide +kernel
theorem dX7_count_22 : decode cX7_count 22 = .ok (.aload_n 0, 1) := by decide +kernel
theorem dX7_count_23 : decode cX7_count 23 = .ok (.iload_n 1, 1) := by decide +kernel
theorem dX7_count_24 : decode cX7_count 24 = .ok (.invokevirtual 251, 3) := by decide +kernel
theorem dX7_count_27 : decode cX7_count 27 = .ok (.goto 4, 3) := by decide +kernel
theorem dX7_count_30 : decode cX7_count 30 = .ok (.iconst 0, 1) := by decide +kernel
theorem dX7_count_31 : decode cX7_count 31 = .ok (.ireturn, 1) := by decide +kernel
theorem lg_wsX7_fewestTo_0 : GoodIn wsX7_fewestTo ([.fieldLink RX7 35 "MolesLawnModel" "away" "[I", .methodLink RX7 239 yX7_layAway, .instanceMethod yX7_layAway, .selects RX7 yX7_layAway yX7_layAway, .initialized RX7, .code yX7_layAway cX7_layAway 7 none, .fieldLink RX7 7 "MolesLawnModel" "s" "[I", .methodLink RX7 92 yX7_hasMound, .instanceMethod yX7_hasMound, .selects RX7 yX7_hasMound yX7_hasMound, .code yX7_hasMound cX7_hasMound 2 (some .boolean), .methodLink RX7 53 yX7_tuftAt, .instanceMethod yX7_tuftAt, .selects RX7 yX7_tuftAt yX7_tuftAt, .code yX7_tuftAt cX7_tuftAt 2 (some .int), .methodLink RX7 49 yX7_endFrom, .instanceMethod yX7_endFrom, .selects RX7 yX7_endFrom yX7_endFrom, .code yX7_endFrom cX7_endFrom 3 (some .int)] : List Cond) := goodIn_sub (fun _ h => (List.mem_cons_of_mem _ (List.mem_append_left _ h))) (by decide +kernel)
theorem ls_wsX7_fewestTo_0 : GoodIn wsX7_fewestTo wsX70 := goodIn_sub (fun _ h => (List.mem_cons_of_mem _ (List.mem_append_right _ h))) (by decide +kernel)
set_option maxRecDepth 20000 in
theorem ggX7_fewestTo_X7_layAway : GoodIn wsX7_fewestTo wsX7_layAway := (gi_cons (lg_wsX7_fewestTo_0 _ (List.mem_of_getElem? (i := 5) rfl)) (goodIn_app (gi_cons (lg_wsX7_fewestTo_0 _ (List.mem_of_getElem? (i := 0) rfl)) (gi_cons (lg_wsX7_fewestTo_0 _ (List.mem_of_getElem? (i := 6) rfl)) (gi_cons (lg_wsX7_fewestTo_0 _ (List.mem_of_getElem? (i := 7) rfl)) (gi_cons (lg_wsX7_fewestTo_0 _ (List.mem_of_getElem? (i := 8) rfl)) (gi_cons (lg_wsX7_fewestTo_0 _ (List.mem_of_getElem? (i := 9) rfl)) (gi_cons (lg_wsX7_fewestTo_0 _ (List.mem_of_getElem? (i := 4) rfl)) (gi_cons (lg_wsX7_fewestTo_0 _ (List.mem_of_getElem? (i := 10) rfl)) (gi_cons (lg_wsX7_fewestTo_0 _ (List.mem_of_getElem? (i := 11) rfl)) (gi_cons (lg_wsX7_fewestTo_0 _ (List.mem_of_getElem? (i := 12) rfl)) (gi_cons (lg_wsX7_fewestTo_0 _ (List.mem_of_getElem? (i := 13) rfl)) (gi_cons (lg_wsX7_fewestTo_0 _ (List.mem_of_getElem? (i := 14) rfl)) (gi_cons (lg_wsX7_fewestTo_0 _ (List.mem_of_getElem? (i := 15) rfl)) (gi_cons (lg_wsX7_fewestTo_0 _ (List.mem_of_getElem? (i := 16) rfl)) (gi_cons (lg_wsX7_fewestTo_0 _ (List.mem_of_getElem? (i := 17) rfl)) (gi_cons (lg_wsX7_fewestTo_0 _ (List.mem_of_getElem? (i := 18) rfl)) gi_nil))))))))))))))) ls_wsX7_fewestTo_0))
set_option maxRecDepth 20000 in
theorem gX7_fewestTo_X7_layAway : GoodIn wsX7_fewestTo (wsV RX7 239 RX7 yX7_layAway wsX7_layAway) := goodIn_app (gi_cons (lg_wsX7_fewestTo_0 _ (List.mem_of_getElem? (i := 1) rfl)) (gi_cons (lg_wsX7_fewestTo_0 _ (List.mem_of_getElem? (i := 2) rfl)) (gi_cons (lg_wsX7_fewestTo_0 _ (List.mem_of_getElem? (i := 3) rfl)) (gi_cons (lg_wsX7_fewestTo_0 _ (List.mem_of_getElem? (i := 4) rfl)) gi_nil)))) ggX7_fewestTo_X7_layAway
set_option maxRecDepth 20000 in
theorem ggX7_fewestTo_X7_hasMound : GoodIn wsX7_fewestTo wsX7_hasMound := (gi_cons (lg_wsX7_fewestTo_0 _ (List.mem_of_getElem? (i := 10) rfl)) (goodIn_app (gi_cons (lg_wsX7_fewestTo_0 _ (List.mem_of_getElem? (i := 6) rfl)) gi_nil) ls_wsX7_fewestTo_0))
set_option maxRecDepth 20000 in
theorem gX7_fewestTo_X7_hasMound : GoodIn wsX7_fewestTo (wsV RX7 92 RX7 yX7_hasMound wsX7_hasMound) := goodIn_app (gi_cons (lg_wsX7_fewestTo_0 _ (List.mem_of_getElem? (i := 7) rfl)) (gi_cons (lg_wsX7_fewestTo_0 _ (List.mem_of_getElem? (i := 8) rfl)) (gi_cons (lg_wsX7_fewestTo_0 _ (List.mem_of_getElem? (i := 9) rfl)) (gi_cons (lg_wsX7_fewestTo_0 _ (List.mem_of_getElem? (i := 4) rfl)) gi_nil)))) ggX7_fewestTo_X7_hasMound
theorem dX7_fewestTo_0 : decode cX7_fewestTo 0 = .ok (.aload_n 0, 1) := by decide +kernel
theorem dX7_fewestTo_1 : decode cX7_fewestTo 1 = .ok (.iload_n 1, 1) := by decide +kernel
theorem dX7_fewestTo_2 : decode cX7_fewestTo 2 = .ok (.invokevirtual 239, 3) := by decide +kernel
theorem dX7_fewestTo_5 : decode cX7_fewestTo 5 = .ok (.aload_n 0, 1) := by decide +kernel
theorem dX7_fewestTo_6 : decode cX7_fewestTo 6 = .ok (.iload_n 2, 1) := by decide +kernel
theorem dX7_fewestTo_7 : decode cX7_fewestTo 7 = .ok (.invokevirtual 92, 3) := by decide +kernel
theorem dX7_fewestTo_10 : decode cX7_fewestTo 10 = .ok (.ifCond .eq 24, 3) := by decide +kernel
theorem dX7_fewestTo_13 : decode cX7_fewestTo 13 = .ok (.aload_n 0, 1) := by decide +kernel
theorem dX7_fewestTo_14 : decode cX7_fewestTo 14 = .ok (.getfield 35, 3) := by decide +kernel
theorem dX7_fewestTo_17 : decode cX7_fewestTo 17 = .ok (.iload_n 2, 1) := by decide +kernel
theorem dX7_fewestTo_18 : decode cX7_fewestTo 18 = .ok (.iaload, 1) := by decide +kernel
theorem dX7_fewestTo_19 : decode cX7_fewestTo 19 = .ok (.sipush 1000, 3) := by decide +kernel
theorem dX7_fewestTo_22 : decode cX7_fewestTo 22 = .ok (.if_icmp .ge 12, 3) := by decide +kernel
theorem dX7_fewestTo_25 : decode cX7_fewestTo 25 = .ok (.aload_n 0, 1) := by decide +kernel
theorem dX7_fewestTo_26 : decode cX7_fewestTo 26 = .ok (.getfield 35, 3) := by decide +kernel
theorem dX7_fewestTo_29 : decode cX7_fewestTo 29 = .ok (.iload_n 2, 1) := by decide +kernel
theorem dX7_fewestTo_30 : decode cX7_fewestTo 30 = .ok (.iaload, 1) := by decide +kernel
theorem dX7_fewestTo_31 : decode cX7_fewestTo 31 = .ok (.goto 4, 3) := by decide +kernel
theorem dX7_fewestTo_34 : decode cX7_fewestTo 34 = .ok (.iconst (-1), 1) := by decide +kernel
theorem dX7_fewestTo_35 : decode cX7_fewestTo 35 = .ok (.ireturn, 1) := by decide +kernel
theorem lg_wsX7_joined_0 : GoodIn wsX7_joined wsX7_joined_r1 := goodIn_sub (fun _ h => (List.mem_cons_of_mem _ (List.mem_append_left _ (List.mem_append_left _ h)))) (by decide +kernel)
theorem lg_wsX7_joined_1 : GoodIn wsX7_joined wsX7_joined_r2 := goodIn_sub (fun _ h => (List.mem_cons_of_mem _ (List.mem_append_left _ (List.mem_append_right _ h)))) (by decide +kernel)
theorem ls_wsX7_joined_0 : GoodIn wsX7_joined wsX70 := goodIn_sub (fun _ h => (List.mem_cons_of_mem _ (List.mem_append_right _ h))) (by decide +kernel)
set_option maxRecDepth 20000 in
theorem ggX7_joined_X7_isTuft : GoodIn wsX7_joined wsX7_isTuft := (gi_cons (lg_wsX7_joined_0 _ (List.mem_of_getElem? (i := 3) rfl)) (gi_cons (lg_wsX7_joined_0 _ (List.mem_of_getElem? (i := 4) rfl)) (gi_cons (lg_wsX7_joined_0 _ (List.mem_of_getElem? (i := 5) rfl)) (gi_cons (lg_wsX7_joined_0 _ (List.mem_of_getElem? (i := 2) rfl)) (gi_cons (lg_wsX7_joined_0 _ (List.mem_of_getElem? (i := 6) rfl)) gi_nil)))))
set_option maxRecDepth 20000 in
theorem gX7_joined_X7_isTuft : GoodIn wsX7_joined (va_wsS RX7 120 yX7_isTuft wsX7_isTuft) := goodIn_app (gi_cons (lg_wsX7_joined_0 _ (List.mem_of_getElem? (i := 0) rfl)) (gi_cons (lg_wsX7_joined_0 _ (List.mem_of_getElem? (i := 1) rfl)) (gi_cons (lg_wsX7_joined_0 _ (List.mem_of_getElem? (i := 2) rfl)) gi_nil))) ggX7_joined_X7_isTuft
set_option maxRecDepth 20000 in
theorem ggX7_joined_X7_holds : GoodIn wsX7_joined wsX7_holds := (gi_cons (lg_wsX7_joined_0 _ (List.mem_of_getElem? (i := 10) rfl)) (goodIn_app (gi_cons (lg_wsX7_joined_0 _ (List.mem_of_getElem? (i := 11) rfl)) gi_nil) ls_wsX7_joined_0))
set_option maxRecDepth 20000 in
theorem gX7_joined_X7_holds : GoodIn wsX7_joined (wsV RX7 123 RX7 yX7_holds wsX7_holds) := goodIn_app (gi_cons (lg_wsX7_joined_0 _ (List.mem_of_getElem? (i := 7) rfl)) (gi_cons (lg_wsX7_joined_0 _ (List.mem_of_getElem? (i := 8) rfl)) (gi_cons (lg_wsX7_joined_0 _ (List.mem_of_getElem? (i := 9) rfl)) (gi_cons (lg_wsX7_joined_0 _ (List.mem_of_getElem? (i := 2) rfl)) gi_nil)))) ggX7_joined_X7_holds
set_option maxRecDepth 20000 in
theorem ggX7_joined_X7_fewestTo : GoodIn wsX7_joined wsX7_fewestTo := (gi_cons (lg_wsX7_joined_0 _ (List.mem_of_getElem? (i := 15) rfl)) (goodIn_app (gi_cons (lg_wsX7_joined_0 _ (List.mem_of_getElem? (i := 16) rfl)) (gi_cons (lg_wsX7_joined_0 _ (List.mem_of_getElem? (i := 17) rfl)) (gi_cons (lg_wsX7_joined_0 _ (List.mem_of_getElem? (i := 18) rfl)) (gi_cons (lg_wsX7_joined_0 _ (List.mem_of_getElem? (i := 19) rfl)) (gi_cons (lg_wsX7_joined_0 _ (List.mem_of_getElem? (i := 2) rfl)) (gi_cons (lg_wsX7_joined_0 _ (List.mem_of_getElem? (i := 20) rfl)) (gi_cons (lg_wsX7_joined_0 _ (List.mem_of_getElem? (i := 21) rfl)) (gi_cons (lg_wsX7_joined_0 _ (List.mem_of_getElem? (i := 22) rfl)) (gi_cons (lg_wsX7_joined_0 _ (List.mem_of_getElem? (i := 23) rfl)) (gi_cons (lg_wsX7_joined_1 _ (List.mem_of_getElem? (i := 0) rfl)) (gi_cons (lg_wsX7_joined_1 _ (List.mem_of_getElem? (i := 1) rfl)) (gi_cons (lg_wsX7_joined_1 _ (List.mem_of_getElem? (i := 2) rfl)) (gi_cons (lg_wsX7_joined_1 _ (List.mem_of_getElem? (i := 3) rfl)) (gi_cons (lg_wsX7_joined_1 _ (List.mem_of_getElem? (i := 4) rfl)) (gi_cons (lg_wsX7_joined_1 _ (List.mem_of_getElem? (i := 5) rfl)) (gi_cons (lg_wsX7_joined_1 _ (List.mem_of_getElem? (i := 6) rfl)) (gi_cons (lg_wsX7_joined_1 _ (List.mem_of_getElem? (i := 7) rfl)) (gi_cons (lg_wsX7_joined_1 _ (List.mem_of_getElem? (i := 8) rfl)) (gi_cons (lg_wsX7_joined_1 _ (List.mem_of_getElem? (i := 9) rfl)) gi_nil))))))))))))))))))) ls_wsX7_joined_0))
set_option maxRecDepth 20000 in
theorem gX7_joined_X7_fewestTo : GoodIn wsX7_joined (wsV RX7 254 RX7 yX7_fewestTo wsX7_fewestTo) := goodIn_app (gi_cons (lg_wsX7_joined_0 _ (List.mem_of_getElem? (i := 12) rfl)) (gi_cons (lg_wsX7_joined_0 _ (List.mem_of_getElem? (i := 13) rfl)) (gi_cons (lg_wsX7_joined_0 _ (List.mem_of_getElem? (i := 14) rfl)) (gi_cons (lg_wsX7_joined_0 _ (List.mem_of_getElem? (i := 2) rfl)) gi_nil)))) ggX7_joined_X7_fewestTo
theorem dX7_joined_0 : decode cX7_joined 0 = .ok (.aload_n 0, 1) := by decide +kernel
theorem dX7_joined_1 : decode cX7_joined 1 = .ok (.iload_n 1, 1) := by decide +kernel
theorem dX7_joined_2 : decode cX7_joined 2 = .ok (.invokestatic 120, 3) := by decide +kernel
theorem dX7_joined_5 : decode cX7_joined 5 = .ok (.ifCond .eq 14, 3) := by decide +kernel
theorem dX7_joined_8 : decode cX7_joined 8 = .ok (.iload_n 2, 1) := by decide +kernel
theorem dX7_joined_9 : decode cX7_joined 9 = .ok (.invokestatic 120, 3) := by decide +kernel
theorem dX7_joined_12 : decode cX7_joined 12 = .ok (.ifCond .eq 7, 3) := by decide +kernel
theorem dX7_joined_15 : decode cX7_joined 15 = .ok (.iconst 0, 1) := by decide +kernel
theorem dX7_joined_16 : decode cX7_joined 16 = .ok (.goto 4, 3) := by decide +kernel
theorem dX7_joined_19 : decode cX7_joined 19 = .ok (.iconst 1, 1) := by decide +kernel
theorem dX7_joined_20 : decode cX7_joined 20 = .ok (.invokevirtual 123, 3) := by decide +kernel
theorem dX7_joined_23 : decode cX7_joined 23 = .ok (.ifCond .eq 17, 3) := by decide +kernel
theorem dX7_joined_26 : decode cX7_joined 26 = .ok (.aload_n 0, 1) := by decide +kernel
theorem dX7_joined_27 : decode cX7_joined 27 = .ok (.iload_n 1, 1) := by decide +kernel
theorem dX7_joined_28 : decode cX7_joined 28 = .ok (.iload_n 2, 1) := by decide +kernel
theorem dX7_joined_29 : decode cX7_joined 29 = .ok (.invokevirtual 254, 3) := by decide +kernel
theorem dX7_joined_32 : decode cX7_joined 32 = .ok (.iconst (-1), 1) := by decide +kernel
theorem dX7_joined_33 : decode cX7_joined 33 = .ok (.if_icmp .eq 7, 3) := by decide +kernel
theorem dX7_joined_36 : decode cX7_joined 36 = .ok (.iconst 1, 1) := by decide +kernel
theorem dX7_joined_37 : decode cX7_joined 37 = .ok (.goto 4, 3) := by decide +kernel
theorem dX7_joined_40 : decode cX7_joined 40 = .ok (.iconst 0, 1) := by decide +kernel
theorem dX7_joined_41 : decode cX7_joined 41 = .ok (.ireturn, 1) := by decide +kernel
theorem lg_wsX7_fewest_0 : GoodIn wsX7_fewest wsX7_fewest_r1 := goodIn_sub (fun _ h => (List.mem_cons_of_mem _ (List.mem_append_left _ (List.mem_append_left _ h)))) (by decide +kernel)
theorem lg_wsX7_fewest_1 : GoodIn wsX7_fewest wsX7_fewest_r2 := goodIn_sub (fun _ h => (List.mem_cons_of_mem _ (List.mem_append_left _ (List.mem_append_right _ h)))) (by decide +kernel)
theorem ls_wsX7_fewest_0 : GoodIn wsX7_fewest wsX70 := goodIn_sub (fun _ h => (List.mem_cons_of_mem _ (List.mem_append_right _ h))) (by decide +kernel)
set_option maxRecDepth 20000 in
theorem ggX7_fewest_X7_isTuft : GoodIn wsX7_fewest wsX7_isTuft := (gi_cons (lg_wsX7_fewest_0 _ (List.mem_of_getElem? (i := 3) rfl)) (gi_cons (lg_wsX7_fewest_0 _ (List.mem_of_getElem? (i := 4) rfl)) (gi_cons (lg_wsX7_fewest_0 _ (List.mem_of_getElem? (i := 5) rfl)) (gi_cons (lg_wsX7_fewest_0 _ (List.mem_of_getElem? (i := 2) rfl)) (gi_cons (lg_wsX7_fewest_0 _ (List.mem_of_getElem? (i := 6) rfl)) gi_nil)))))
set_option maxRecDepth 20000 in
theorem gX7_fewest_X7_isTuft : GoodIn wsX7_fewest (va_wsS RX7 120 yX7_isTuft wsX7_isTuft) := goodIn_app (gi_cons (lg_wsX7_fewest_0 _ (List.mem_of_getElem? (i := 0) rfl)) (gi_cons (lg_wsX7_fewest_0 _ (List.mem_of_getElem? (i := 1) rfl)) (gi_cons (lg_wsX7_fewest_0 _ (List.mem_of_getElem? (i := 2) rfl)) gi_nil))) ggX7_fewest_X7_isTuft
set_option maxRecDepth 20000 in
theorem ggX7_fewest_X7_holds : GoodIn wsX7_fewest wsX7_holds := (gi_cons (lg_wsX7_fewest_0 _ (List.mem_of_getElem? (i := 10) rfl)) (goodIn_app (gi_cons (lg_wsX7_fewest_0 _ (List.mem_of_getElem? (i := 11) rfl)) gi_nil) ls_wsX7_fewest_0))
set_option maxRecDepth 20000 in
theorem gX7_fewest_X7_holds : GoodIn wsX7_fewest (wsV RX7 123 RX7 yX7_holds wsX7_holds) := goodIn_app (gi_cons (lg_wsX7_fewest_0 _ (List.mem_of_getElem? (i := 7) rfl)) (gi_cons (lg_wsX7_fewest_0 _ (List.mem_of_getElem? (i := 8) rfl)) (gi_cons (lg_wsX7_fewest_0 _ (List.mem_of_getElem? (i := 9) rfl)) (gi_cons (lg_wsX7_fewest_0 _ (List.mem_of_getElem? (i := 2) rfl)) gi_nil)))) ggX7_fewest_X7_holds
set_option maxRecDepth 20000 in
theorem ggX7_fewest_X7_fewestTo : GoodIn wsX7_fewest wsX7_fewestTo := (gi_cons (lg_wsX7_fewest_0 _ (List.mem_of_getElem? (i := 15) rfl)) (goodIn_app (gi_cons (lg_wsX7_fewest_0 _ (List.mem_of_getElem? (i := 16) rfl)) (gi_cons (lg_wsX7_fewest_0 _ (List.mem_of_getElem? (i := 17) rfl)) (gi_cons (lg_wsX7_fewest_0 _ (List.mem_of_getElem? (i := 18) rfl)) (gi_cons (lg_wsX7_fewest_0 _ (List.mem_of_getElem? (i := 19) rfl)) (gi_cons (lg_wsX7_fewest_0 _ (List.mem_of_getElem? (i := 2) rfl)) (gi_cons (lg_wsX7_fewest_0 _ (List.mem_of_getElem? (i := 20) rfl)) (gi_cons (lg_wsX7_fewest_0 _ (List.mem_of_getElem? (i := 21) rfl)) (gi_cons (lg_wsX7_fewest_0 _ (List.mem_of_getElem? (i := 22) rfl)) (gi_cons (lg_wsX7_fewest_0 _ (List.mem_of_getElem? (i := 23) rfl)) (gi_cons (lg_wsX7_fewest_1 _ (List.mem_of_getElem? (i := 0) rfl)) (gi_cons (lg_wsX7_fewest_1 _ (List.mem_of_getElem? (i := 1) rfl)) (gi_cons (lg_wsX7_fewest_1 _ (List.mem_of_getElem? (i := 2) rfl)) (gi_cons (lg_wsX7_fewest_1 _ (List.mem_of_getElem? (i := 3) rfl)) (gi_cons (lg_wsX7_fewest_1 _ (List.mem_of_getElem? (i := 4) rfl)) (gi_cons (lg_wsX7_fewest_1 _ (List.mem_of_getElem? (i := 5) rfl)) (gi_cons (lg_wsX7_fewest_1 _ (List.mem_of_getElem? (i := 6) rfl)) (gi_cons (lg_wsX7_fewest_1 _ (List.mem_of_getElem? (i := 7) rfl)) (gi_cons (lg_wsX7_fewest_1 _ (List.mem_of_getElem? (i := 8) rfl)) (gi_cons (lg_wsX7_fewest_1 _ (List.mem_of_getElem? (i := 9) rfl)) gi_nil))))))))))))))))))) ls_wsX7_fewest_0))
set_option maxRecDepth 20000 in
theorem gX7_fewest_X7_fewestTo : GoodIn wsX7_fewest (wsV RX7 254 RX7 yX7_fewestTo wsX7_fewestTo) := goodIn_app (gi_cons (lg_wsX7_fewest_0 _ (List.mem_of_getElem? (i := 12) rfl)) (gi_cons (lg_wsX7_fewest_0 _ (List.mem_of_getElem? (i := 13) rfl)) (gi_cons (lg_wsX7_fewest_0 _ (List.mem_of_getElem? (i := 14) rfl)) (gi_cons (lg_wsX7_fewest_0 _ (List.mem_of_getElem? (i := 2) rfl)) gi_nil)))) ggX7_fewest_X7_fewestTo
theorem dX7_fewest_0 : decode cX7_fewest 0 = .ok (.aload_n 0, 1) := by decide +kernel
theorem dX7_fewest_1 : decode cX7_fewest 1 = .ok (.iload_n 1, 1) := by decide +kernel
theorem dX7_fewest_2 : decode cX7_fewest 2 = .ok (.invokestatic 120, 3) := by decide +kernel
theorem dX7_fewest_5 : decode cX7_fewest 5 = .ok (.ifCond .eq 14, 3) := by decide +kernel
theorem dX7_fewest_8 : decode cX7_fewest 8 = .ok (.iload_n 2, 1) := by decide +kernel
theorem dX7_fewest_9 : decode cX7_fewest 9 = .ok (.invokestatic 120, 3) := by decide +kernel
theorem dX7_fewest_12 : decode cX7_fewest 12 = .ok (.ifCond .eq 7, 3) := by decide +kernel
theorem dX7_fewest_15 : decode cX7_fewest 15 = .ok (.iconst 0, 1) := by decide +kernel
theorem dX7_fewest_16 : decode cX7_fewest 16 = .ok (.goto 4, 3) := by decide +kernel
theorem dX7_fewest_19 : decode cX7_fewest 19 = .ok (.iconst 1, 1) := by decide +kernel
theorem dX7_fewest_20 : decode cX7_fewest 20 = .ok (.invokevirtual 123, 3) := by decide +kernel
theorem dX7_fewest_23 : decode cX7_fewest 23 = .ok (.ifCond .eq 12, 3) := by decide +kernel
theorem dX7_fewest_26 : decode cX7_fewest 26 = .ok (.aload_n 0, 1) := by decide +kernel
theorem dX7_fewest_27 : decode cX7_fewest 27 = .ok (.iload_n 1, 1) := by decide +kernel
theorem dX7_fewest_28 : decode cX7_fewest 28 = .ok (.iload_n 2, 1) := by decide +kernel
theorem dX7_fewest_29 : decode cX7_fewest 29 = .ok (.invokevirtual 254, 3) := by decide +kernel
theorem dX7_fewest_32 : decode cX7_fewest 32 = .ok (.goto 4, 3) := by decide +kernel
theorem dX7_fewest_35 : decode cX7_fewest 35 = .ok (.iconst 0, 1) := by decide +kernel
theorem dX7_fewest_36 : decode cX7_fewest 36 = .ok (.ireturn, 1) := by decide +kernel
theorem lg_wsX7_whenDug_0 : GoodIn wsX7_whenDug wsX7_whenDug_r1 := goodIn_sub (fun _ h => (List.mem_cons_of_mem _ (List.mem_append_left _ (List.mem_append_left _ h)))) (by decide +kernel)
theorem lg_wsX7_whenDug_1 : GoodIn wsX7_whenDug wsX7_whenDug_r2 := goodIn_sub (fun _ h => (List.mem_cons_of_mem _ (List.mem_append_left _ (List.mem_append_right _ (List.mem_append_left _ h))))) (by decide +kernel)
theorem lg_wsX7_whenDug_2 : GoodIn wsX7_whenDug wsX7_whenDug_r3 := goodIn_sub (fun _ h => (List.mem_cons_of_mem _ (List.mem_append_left _ (List.mem_append_right _ (List.mem_append_right _ (List.mem_append_left _ h)))))) (by decide +kernel)
theorem lg_wsX7_whenDug_3 : GoodIn wsX7_whenDug wsX7_whenDug_r4 := goodIn_sub (fun _ h => (List.mem_cons_of_mem _ (List.mem_append_left _ (List.mem_append_right _ (List.mem_append_right _ (List.mem_append_right _ h)))))) (by decide +kernel)
theorem ls_wsX7_whenDug_0 : GoodIn wsX7_whenDug wsX70 := goodIn_sub (fun _ h => (List.mem_cons_of_mem _ (List.mem_append_right _ h))) (by decide +kernel)
set_option maxRecDepth 20000 in
theorem ggX7_whenDug_X7_putAside : GoodIn wsX7_whenDug wsX7_putAside := (gi_cons (lg_wsX7_whenDug_0 _ (List.mem_of_getElem? (i := 5) rfl)) (goodIn_app (gi_cons (lg_wsX7_whenDug_0 _ (List.mem_of_getElem? (i := 6) rfl)) (gi_cons (lg_wsX7_whenDug_0 _ (List.mem_of_getElem? (i := 0) rfl)) gi_nil)) ls_wsX7_whenDug_0))
set_option maxRecDepth 20000 in
theorem gX7_whenDug_X7_putAside : GoodIn wsX7_whenDug (wsV RX7 257 RX7 yX7_putAside wsX7_putAside) := goodIn_app (gi_cons (lg_wsX7_whenDug_0 _ (List.mem_of_getElem? (i := 1) rfl)) (gi_cons (lg_wsX7_whenDug_0 _ (List.mem_of_getElem? (i := 2) rfl)) (gi_cons (lg_wsX7_whenDug_0 _ (List.mem_of_getElem? (i := 3) rfl)) (gi_cons (lg_wsX7_whenDug_0 _ (List.mem_of_getElem? (i := 4) rfl)) gi_nil)))) ggX7_whenDug_X7_putAside
set_option maxRecDepth 20000 in
theorem ggX7_whenDug_X7_dug : GoodIn wsX7_whenDug wsX7_dug := (gi_cons (lg_wsX7_whenDug_0 _ (List.mem_of_getElem? (i := 10) rfl)) (goodIn_app (goodIn_app (gi_cons (lg_wsX7_whenDug_0 _ (List.mem_of_getElem? (i := 0) rfl)) (gi_cons (lg_wsX7_whenDug_0 _ (List.mem_of_getElem? (i := 11) rfl)) (gi_cons (lg_wsX7_whenDug_0 _ (List.mem_of_getElem? (i := 12) rfl)) (gi_cons (lg_wsX7_whenDug_0 _ (List.mem_of_getElem? (i := 4) rfl)) (gi_cons (lg_wsX7_whenDug_0 _ (List.mem_of_getElem? (i := 13) rfl)) (gi_cons (lg_wsX7_whenDug_0 _ (List.mem_of_getElem? (i := 14) rfl)) (gi_cons (lg_wsX7_whenDug_0 _ (List.mem_of_getElem? (i := 15) rfl)) (gi_cons (lg_wsX7_whenDug_0 _ (List.mem_of_getElem? (i := 16) rfl)) (gi_cons (lg_wsX7_whenDug_0 _ (List.mem_of_getElem? (i := 17) rfl)) (gi_cons (lg_wsX7_whenDug_0 _ (List.mem_of_getElem? (i := 18) rfl)) (gi_cons (lg_wsX7_whenDug_0 _ (List.mem_of_getElem? (i := 19) rfl)) (gi_cons (lg_wsX7_whenDug_0 _ (List.mem_of_getElem? (i := 20) rfl)) (gi_cons (lg_wsX7_whenDug_0 _ (List.mem_of_getElem? (i := 21) rfl)) (gi_cons (lg_wsX7_whenDug_0 _ (List.mem_of_getElem? (i := 22) rfl)) (gi_cons (lg_wsX7_whenDug_0 _ (List.mem_of_getElem? (i := 23) rfl)) (gi_cons (lg_wsX7_whenDug_1 _ (List.mem_of_getElem? (i := 0) rfl)) (gi_cons (lg_wsX7_whenDug_1 _ (List.mem_of_getElem? (i := 1) rfl)) (gi_cons (lg_wsX7_whenDug_1 _ (List.mem_of_getElem? (i := 2) rfl)) (gi_cons (lg_wsX7_whenDug_1 _ (List.mem_of_getElem? (i := 3) rfl)) (gi_cons (lg_wsX7_whenDug_1 _ (List.mem_of_getElem? (i := 4) rfl)) (gi_cons (lg_wsX7_whenDug_1 _ (List.mem_of_getElem? (i := 5) rfl)) (gi_cons (lg_wsX7_whenDug_1 _ (List.mem_of_getElem? (i := 6) rfl)) (gi_cons (lg_wsX7_whenDug_1 _ (List.mem_of_getElem? (i := 7) rfl)) (gi_cons (lg_wsX7_whenDug_1 _ (List.mem_of_getElem? (i := 8) rfl)) gi_nil)))))))))))))))))))))))) (goodIn_app (gi_cons (lg_wsX7_whenDug_1 _ (List.mem_of_getElem? (i := 9) rfl)) (gi_cons (lg_wsX7_whenDug_1 _ (List.mem_of_getElem? (i := 10) rfl)) (gi_cons (lg_wsX7_whenDug_1 _ (List.mem_of_getElem? (i := 11) rfl)) (gi_cons (lg_wsX7_whenDug_1 _ (List.mem_of_getElem? (i := 12) rfl)) (gi_cons (lg_wsX7_whenDug_1 _ (List.mem_of_getElem? (i := 13) rfl)) (gi_cons (lg_wsX7_whenDug_1 _ (List.mem_of_getElem? (i := 14) rfl)) (gi_cons (lg_wsX7_whenDug_1 _ (List.mem_of_getElem? (i := 15) rfl)) (gi_cons (lg_wsX7_whenDug_1 _ (List.mem_of_getElem? (i := 16) rfl)) (gi_cons (lg_wsX7_whenDug_1 _ (List.mem_of_getElem? (i := 17) rfl)) (gi_cons (lg_wsX7_whenDug_1 _ (List.mem_of_getElem? (i := 18) rfl)) (gi_cons (lg_wsX7_whenDug_1 _ (List.mem_of_getElem? (i := 19) rfl)) (gi_cons (lg_wsX7_whenDug_1 _ (List.mem_of_getElem? (i := 20) rfl)) (gi_cons (lg_wsX7_whenDug_1 _ (List.mem_of_getElem? (i := 21) rfl)) (gi_cons (lg_wsX7_whenDug_1 _ (List.mem_of_getElem? (i := 22) rfl)) (gi_cons (lg_wsX7_whenDug_1 _ (List.mem_of_getElem? (i := 23) rfl)) (gi_cons (lg_wsX7_whenDug_2 _ (List.mem_of_getElem? (i := 0) rfl)) (gi_cons (lg_wsX7_whenDug_2 _ (List.mem_of_getElem? (i := 1) rfl)) (gi_cons (lg_wsX7_whenDug_2 _ (List.mem_of_getElem? (i := 2) rfl)) (gi_cons (lg_wsX7_whenDug_2 _ (List.mem_of_getElem? (i := 3) rfl)) (gi_cons (lg_wsX7_whenDug_2 _ (List.mem_of_getElem? (i := 4) rfl)) (gi_cons (lg_wsX7_whenDug_2 _ (List.mem_of_getElem? (i := 5) rfl)) (gi_cons (lg_wsX7_whenDug_2 _ (List.mem_of_getElem? (i := 6) rfl)) (gi_cons (lg_wsX7_whenDug_2 _ (List.mem_of_getElem? (i := 7) rfl)) (gi_cons (lg_wsX7_whenDug_2 _ (List.mem_of_getElem? (i := 8) rfl)) gi_nil)))))))))))))))))))))))) (gi_cons (lg_wsX7_whenDug_2 _ (List.mem_of_getElem? (i := 9) rfl)) (gi_cons (lg_wsX7_whenDug_2 _ (List.mem_of_getElem? (i := 10) rfl)) (gi_cons (lg_wsX7_whenDug_2 _ (List.mem_of_getElem? (i := 11) rfl)) (gi_cons (lg_wsX7_whenDug_2 _ (List.mem_of_getElem? (i := 12) rfl)) (gi_cons (lg_wsX7_whenDug_2 _ (List.mem_of_getElem? (i := 13) rfl)) gi_nil))))))) ls_wsX7_whenDug_0))
set_option maxRecDepth 20000 in
theorem gX7_whenDug_X7_dug : GoodIn wsX7_whenDug (wsV RX7 145 RX7 yX7_dug wsX7_dug) := goodIn_app (gi_cons (lg_wsX7_whenDug_0 _ (List.mem_of_getElem? (i := 7) rfl)) (gi_cons (lg_wsX7_whenDug_0 _ (List.mem_of_getElem? (i := 8) rfl)) (gi_cons (lg_wsX7_whenDug_0 _ (List.mem_of_getElem? (i := 9) rfl)) (gi_cons (lg_wsX7_whenDug_0 _ (List.mem_of_getElem? (i := 4) rfl)) gi_nil)))) ggX7_whenDug_X7_dug
set_option maxRecDepth 20000 in
theorem ggX7_whenDug_X7_hollow : GoodIn wsX7_whenDug wsX7_hollow := (gi_cons (lg_wsX7_whenDug_2 _ (List.mem_of_getElem? (i := 17) rfl)) (goodIn_app (gi_cons (lg_wsX7_whenDug_2 _ (List.mem_of_getElem? (i := 18) rfl)) (gi_cons (lg_wsX7_whenDug_2 _ (List.mem_of_getElem? (i := 19) rfl)) (gi_cons (lg_wsX7_whenDug_2 _ (List.mem_of_getElem? (i := 20) rfl)) (gi_cons (lg_wsX7_whenDug_2 _ (List.mem_of_getElem? (i := 21) rfl)) (gi_cons (lg_wsX7_whenDug_0 _ (List.mem_of_getElem? (i := 4) rfl)) (gi_cons (lg_wsX7_whenDug_2 _ (List.mem_of_getElem? (i := 22) rfl)) (gi_cons (lg_wsX7_whenDug_0 _ (List.mem_of_getElem? (i := 0) rfl)) (gi_cons (lg_wsX7_whenDug_1 _ (List.mem_of_getElem? (i := 6) rfl)) (gi_cons (lg_wsX7_whenDug_1 _ (List.mem_of_getElem? (i := 7) rfl)) (gi_cons (lg_wsX7_whenDug_1 _ (List.mem_of_getElem? (i := 8) rfl)) (gi_cons (lg_wsX7_whenDug_1 _ (List.mem_of_getElem? (i := 9) rfl)) (gi_cons (lg_wsX7_whenDug_0 _ (List.mem_of_getElem? (i := 11) rfl)) (gi_cons (lg_wsX7_whenDug_0 _ (List.mem_of_getElem? (i := 12) rfl)) (gi_cons (lg_wsX7_whenDug_0 _ (List.mem_of_getElem? (i := 13) rfl)) gi_nil)))))))))))))) ls_wsX7_whenDug_0))
set_option maxRecDepth 20000 in
theorem gX7_whenDug_X7_hollow : GoodIn wsX7_whenDug (wsV RX7 245 RX7 yX7_hollow wsX7_hollow) := goodIn_app (gi_cons (lg_wsX7_whenDug_2 _ (List.mem_of_getElem? (i := 14) rfl)) (gi_cons (lg_wsX7_whenDug_2 _ (List.mem_of_getElem? (i := 15) rfl)) (gi_cons (lg_wsX7_whenDug_2 _ (List.mem_of_getElem? (i := 16) rfl)) (gi_cons (lg_wsX7_whenDug_0 _ (List.mem_of_getElem? (i := 4) rfl)) gi_nil)))) ggX7_whenDug_X7_hollow
set_option maxRecDepth 20000 in
theorem ggX7_whenDug_X7_putBack : GoodIn wsX7_whenDug wsX7_putBack := (gi_cons (lg_wsX7_whenDug_3 _ (List.mem_of_getElem? (i := 2) rfl)) (goodIn_app (gi_cons (lg_wsX7_whenDug_0 _ (List.mem_of_getElem? (i := 0) rfl)) (gi_cons (lg_wsX7_whenDug_0 _ (List.mem_of_getElem? (i := 6) rfl)) gi_nil)) ls_wsX7_whenDug_0))
set_option maxRecDepth 20000 in
theorem gX7_whenDug_X7_putBack : GoodIn wsX7_whenDug (wsV RX7 260 RX7 yX7_putBack wsX7_putBack) := goodIn_app (gi_cons (lg_wsX7_whenDug_2 _ (List.mem_of_getElem? (i := 23) rfl)) (gi_cons (lg_wsX7_whenDug_3 _ (List.mem_of_getElem? (i := 0) rfl)) (gi_cons (lg_wsX7_whenDug_3 _ (List.mem_of_getElem? (i := 1) rfl)) (gi_cons (lg_wsX7_whenDug_0 _ (List.mem_of_getElem? (i := 4) rfl)) gi_nil)))) ggX7_whenDug_X7_putBack
theorem dX7_whenDug_0 : decode cX7_whenDug 0 = .ok (.aload_n 0, 1) := by decide +kernel
theorem dX7_whenDug_1 : decode cX7_whenDug 1 = .ok (.invokevirtual 257, 3) := by decide +kernel
theorem dX7_whenDug_4 : decode cX7_whenDug 4 = .ok (.aload_n 0, 1) := by decide +kernel
theorem dX7_whenDug_5 : decode cX7_whenDug 5 = .ok (.getfield 7, 3) := by decide +kernel
theorem dX7_whenDug_8 : decode cX7_whenDug 8 = .ok (.iconst 5, 1) := by decide +kernel
theorem dX7_whenDug_9 : decode cX7_whenDug 9 = .ok (.iaload, 1) := by decide +kernel
theorem dX7_whenDug_10 : decode cX7_whenDug 10 = .ok (.istore_n 3, 1) := by decide +kernel
theorem dX7_whenDug_11 : decode cX7_whenDug 11 = .ok (.aload_n 0, 1) := by decide +kernel
theorem dX7_whenDug_12 : decode cX7_whenDug 12 = .ok (.iload_n 1, 1) := by decide +kernel
theorem dX7_whenDug_13 : decode cX7_whenDug 13 = .ok (.invokevirtual 145, 3) := by decide +kernel
theorem dX7_whenDug_16 : decode cX7_whenDug 16 = .ok (.istore 4, 2) := by decide +kernel
theorem dX7_whenDug_18 : decode cX7_whenDug 18 = .ok (.iload_n 2, 1) := by decide +kernel
theorem dX7_whenDug_19 : decode cX7_whenDug 19 = .ok (.ifCond .ne 14, 3) := by decide +kernel
theorem dX7_whenDug_22 : decode cX7_whenDug 22 = .ok (.aload_n 0, 1) := by decide +kernel
theorem dX7_whenDug_23 : decode cX7_whenDug 23 = .ok (.getfield 7, 3) := by decide +kernel
theorem dX7_whenDug_26 : decode cX7_whenDug 26 = .ok (.iconst 5, 1) := by decide +kernel
theorem dX7_whenDug_27 : decode cX7_whenDug 27 = .ok (.iaload, 1) := by decide +kernel
theorem dX7_whenDug_28 : decode cX7_whenDug 28 = .ok (.iload_n 3, 1) := by decide +kernel
theorem dX7_whenDug_29 : decode cX7_whenDug 29 = .ok (.isub, 1) := by decide +kernel
theorem dX7_whenDug_30 : decode cX7_whenDug 30 = .ok (.goto 17, 3) := by decide +kernel
theorem dX7_whenDug_33 : decode cX7_whenDug 33 = .ok (.iload_n 2, 1) := by decide +kernel
theorem dX7_whenDug_34 : decode cX7_whenDug 34 = .ok (.iconst 1, 1) := by decide +kernel
theorem dX7_whenDug_35 : decode cX7_whenDug 35 = .ok (.if_icmp .ne 8, 3) := by decide +kernel
theorem dX7_whenDug_38 : decode cX7_whenDug 38 = .ok (.iload 4, 2) := by decide +kernel
theorem dX7_whenDug_40 : decode cX7_whenDug 40 = .ok (.goto 7, 3) := by decide +kernel
theorem dX7_whenDug_43 : decode cX7_whenDug 43 = .ok (.aload_n 0, 1) := by decide +kernel
theorem dX7_whenDug_44 : decode cX7_whenDug 44 = .ok (.invokevirtual 245, 3) := by decide +kernel
theorem dX7_whenDug_47 : decode cX7_whenDug 47 = .ok (.istore 5, 2) := by decide +kernel
theorem dX7_whenDug_49 : decode cX7_whenDug 49 = .ok (.aload_n 0, 1) := by decide +kernel
theorem dX7_whenDug_50 : decode cX7_whenDug 50 = .ok (.invokevirtual 260, 3) := by decide +kernel
theorem dX7_whenDug_53 : decode cX7_whenDug 53 = .ok (.iload 5, 2) := by decide +kernel
theorem dX7_whenDug_55 : decode cX7_whenDug 55 = .ok (.ireturn, 1) := by decide +kernel
theorem lg_wsX7_ifDug_0 : GoodIn wsX7_ifDug wsX7_ifDug_r1 := goodIn_sub (fun _ h => (List.mem_cons_of_mem _ (List.mem_append_left _ (List.mem_append_left _ h)))) (by decide +kernel)
theorem lg_wsX7_ifDug_1 : GoodIn wsX7_ifDug wsX7_ifDug_r2 := goodIn_sub (fun _ h => (List.mem_cons_of_mem _ (List.mem_append_left _ (List.mem_append_right _ (List.mem_append_left _ h))))) (by decide +kernel)
theorem lg_wsX7_ifDug_2 : GoodIn wsX7_ifDug wsX7_ifDug_r3 := goodIn_sub (fun _ h => (List.mem_cons_of_mem _ (List.mem_append_left _ (List.mem_append_right _ (List.mem_append_right _ (List.mem_append_left _ h)))))) (by decide +kernel)
theorem lg_wsX7_ifDug_3 : GoodIn wsX7_ifDug wsX7_ifDug_r4 := goodIn_sub (fun _ h => (List.mem_cons_of_mem _ (List.mem_append_left _ (List.mem_append_right _ (List.mem_append_right _ (List.mem_append_right _ h)))))) (by decide +kernel)
theorem ls_wsX7_ifDug_0 : GoodIn wsX7_ifDug wsX70 := goodIn_sub (fun _ h => (List.mem_cons_of_mem _ (List.mem_append_right _ h))) (by decide +kernel)
set_option maxRecDepth 20000 in
theorem ggX7_ifDug_X7_isTuft : GoodIn wsX7_ifDug wsX7_isTuft := (gi_cons (lg_wsX7_ifDug_0 _ (List.mem_of_getElem? (i := 3) rfl)) (gi_cons (lg_wsX7_ifDug_0 _ (List.mem_of_getElem? (i := 4) rfl)) (gi_cons (lg_wsX7_ifDug_0 _ (List.mem_of_getElem? (i := 5) rfl)) (gi_cons (lg_wsX7_ifDug_0 _ (List.mem_of_getElem? (i := 2) rfl)) (gi_cons (lg_wsX7_ifDug_0 _ (List.mem_of_getElem? (i := 6) rfl)) gi_nil)))))
set_option maxRecDepth 20000 in
theorem gX7_ifDug_X7_isTuft : GoodIn wsX7_ifDug (va_wsS RX7 120 yX7_isTuft wsX7_isTuft) := goodIn_app (gi_cons (lg_wsX7_ifDug_0 _ (List.mem_of_getElem? (i := 0) rfl)) (gi_cons (lg_wsX7_ifDug_0 _ (List.mem_of_getElem? (i := 1) rfl)) (gi_cons (lg_wsX7_ifDug_0 _ (List.mem_of_getElem? (i := 2) rfl)) gi_nil))) ggX7_ifDug_X7_isTuft
set_option maxRecDepth 20000 in
theorem ggX7_ifDug_X7_in : GoodIn wsX7_ifDug wsX7_in := (gi_cons (lg_wsX7_ifDug_0 _ (List.mem_of_getElem? (i := 6) rfl)) gi_nil)
set_option maxRecDepth 20000 in
theorem gX7_ifDug_X7_in : GoodIn wsX7_ifDug (va_wsS RX7 42 yX7_in wsX7_in) := goodIn_app (gi_cons (lg_wsX7_ifDug_0 _ (List.mem_of_getElem? (i := 4) rfl)) (gi_cons (lg_wsX7_ifDug_0 _ (List.mem_of_getElem? (i := 5) rfl)) (gi_cons (lg_wsX7_ifDug_0 _ (List.mem_of_getElem? (i := 2) rfl)) gi_nil))) ggX7_ifDug_X7_in
set_option maxRecDepth 20000 in
theorem ggX7_ifDug_X7_holds : GoodIn wsX7_ifDug wsX7_holds := (gi_cons (lg_wsX7_ifDug_0 _ (List.mem_of_getElem? (i := 10) rfl)) (goodIn_app (gi_cons (lg_wsX7_ifDug_0 _ (List.mem_of_getElem? (i := 11) rfl)) gi_nil) ls_wsX7_ifDug_0))
set_option maxRecDepth 20000 in
theorem gX7_ifDug_X7_holds : GoodIn wsX7_ifDug (wsV RX7 123 RX7 yX7_holds wsX7_holds) := goodIn_app (gi_cons (lg_wsX7_ifDug_0 _ (List.mem_of_getElem? (i := 7) rfl)) (gi_cons (lg_wsX7_ifDug_0 _ (List.mem_of_getElem? (i := 8) rfl)) (gi_cons (lg_wsX7_ifDug_0 _ (List.mem_of_getElem? (i := 9) rfl)) (gi_cons (lg_wsX7_ifDug_0 _ (List.mem_of_getElem? (i := 2) rfl)) gi_nil)))) ggX7_ifDug_X7_holds
set_option maxRecDepth 20000 in
theorem ggX7_ifDug_X7_whenDug : GoodIn wsX7_ifDug wsX7_whenDug := (gi_cons (lg_wsX7_ifDug_0 _ (List.mem_of_getElem? (i := 15) rfl)) (goodIn_app (goodIn_app (gi_cons (lg_wsX7_ifDug_0 _ (List.mem_of_getElem? (i := 16) rfl)) (gi_cons (lg_wsX7_ifDug_0 _ (List.mem_of_getElem? (i := 17) rfl)) (gi_cons (lg_wsX7_ifDug_0 _ (List.mem_of_getElem? (i := 18) rfl)) (gi_cons (lg_wsX7_ifDug_0 _ (List.mem_of_getElem? (i := 19) rfl)) (gi_cons (lg_wsX7_ifDug_0 _ (List.mem_of_getElem? (i := 2) rfl)) (gi_cons (lg_wsX7_ifDug_0 _ (List.mem_of_getElem? (i := 20) rfl)) (gi_cons (lg_wsX7_ifDug_0 _ (List.mem_of_getElem? (i := 21) rfl)) (gi_cons (lg_wsX7_ifDug_0 _ (List.mem_of_getElem? (i := 22) rfl)) (gi_cons (lg_wsX7_ifDug_0 _ (List.mem_of_getElem? (i := 23) rfl)) (gi_cons (lg_wsX7_ifDug_1 _ (List.mem_of_getElem? (i := 0) rfl)) (gi_cons (lg_wsX7_ifDug_1 _ (List.mem_of_getElem? (i := 1) rfl)) (gi_cons (lg_wsX7_ifDug_1 _ (List.mem_of_getElem? (i := 2) rfl)) (gi_cons (lg_wsX7_ifDug_1 _ (List.mem_of_getElem? (i := 3) rfl)) (gi_cons (lg_wsX7_ifDug_1 _ (List.mem_of_getElem? (i := 4) rfl)) (gi_cons (lg_wsX7_ifDug_1 _ (List.mem_of_getElem? (i := 5) rfl)) (gi_cons (lg_wsX7_ifDug_1 _ (List.mem_of_getElem? (i := 6) rfl)) (gi_cons (lg_wsX7_ifDug_1 _ (List.mem_of_getElem? (i := 7) rfl)) (gi_cons (lg_wsX7_ifDug_1 _ (List.mem_of_getElem? (i := 8) rfl)) (gi_cons (lg_wsX7_ifDug_1 _ (List.mem_of_getElem? (i := 9) rfl)) (gi_cons (lg_wsX7_ifDug_1 _ (List.mem_of_getElem? (i := 10) rfl)) (gi_cons (lg_wsX7_ifDug_1 _ (List.mem_of_getElem? (i := 11) rfl)) (gi_cons (lg_wsX7_ifDug_1 _ (List.mem_of_getElem? (i := 12) rfl)) (gi_cons (lg_wsX7_ifDug_1 _ (List.mem_of_getElem? (i := 13) rfl)) (gi_cons (lg_wsX7_ifDug_1 _ (List.mem_of_getElem? (i := 14) rfl)) gi_nil)))))))))))))))))))))))) (goodIn_app (gi_cons (lg_wsX7_ifDug_1 _ (List.mem_of_getElem? (i := 15) rfl)) (gi_cons (lg_wsX7_ifDug_1 _ (List.mem_of_getElem? (i := 16) rfl)) (gi_cons (lg_wsX7_ifDug_1 _ (List.mem_of_getElem? (i := 17) rfl)) (gi_cons (lg_wsX7_ifDug_1 _ (List.mem_of_getElem? (i := 18) rfl)) (gi_cons (lg_wsX7_ifDug_1 _ (List.mem_of_getElem? (i := 19) rfl)) (gi_cons (lg_wsX7_ifDug_1 _ (List.mem_of_getElem? (i := 20) rfl)) (gi_cons (lg_wsX7_ifDug_1 _ (List.mem_of_getElem? (i := 21) rfl)) (gi_cons (lg_wsX7_ifDug_1 _ (List.mem_of_getElem? (i := 22) rfl)) (gi_cons (lg_wsX7_ifDug_1 _ (List.mem_of_getElem? (i := 23) rfl)) (gi_cons (lg_wsX7_ifDug_2 _ (List.mem_of_getElem? (i := 0) rfl)) (gi_cons (lg_wsX7_ifDug_2 _ (List.mem_of_getElem? (i := 1) rfl)) (gi_cons (lg_wsX7_ifDug_2 _ (List.mem_of_getElem? (i := 2) rfl)) (gi_cons (lg_wsX7_ifDug_2 _ (List.mem_of_getElem? (i := 3) rfl)) (gi_cons (lg_wsX7_ifDug_2 _ (List.mem_of_getElem? (i := 4) rfl)) (gi_cons (lg_wsX7_ifDug_2 _ (List.mem_of_getElem? (i := 5) rfl)) (gi_cons (lg_wsX7_ifDug_2 _ (List.mem_of_getElem? (i := 6) rfl)) (gi_cons (lg_wsX7_ifDug_2 _ (List.mem_of_getElem? (i := 7) rfl)) (gi_cons (lg_wsX7_ifDug_2 _ (List.mem_of_getElem? (i := 8) rfl)) (gi_cons (lg_wsX7_ifDug_2 _ (List.mem_of_getElem? (i := 9) rfl)) (gi_cons (lg_wsX7_ifDug_2 _ (List.mem_of_getElem? (i := 10) rfl)) (gi_cons (lg_wsX7_ifDug_2 _ (List.mem_of_getElem? (i := 11) rfl)) (gi_cons (lg_wsX7_ifDug_2 _ (List.mem_of_getElem? (i := 12) rfl)) (gi_cons (lg_wsX7_ifDug_2 _ (List.mem_of_getElem? (i := 13) rfl)) (gi_cons (lg_wsX7_ifDug_2 _ (List.mem_of_getElem? (i := 14) rfl)) gi_nil)))))))))))))))))))))))) (goodIn_app (gi_cons (lg_wsX7_ifDug_2 _ (List.mem_of_getElem? (i := 15) rfl)) (gi_cons (lg_wsX7_ifDug_2 _ (List.mem_of_getElem? (i := 16) rfl)) (gi_cons (lg_wsX7_ifDug_2 _ (List.mem_of_getElem? (i := 17) rfl)) (gi_cons (lg_wsX7_ifDug_2 _ (List.mem_of_getElem? (i := 18) rfl)) (gi_cons (lg_wsX7_ifDug_2 _ (List.mem_of_getElem? (i := 19) rfl)) (gi_cons (lg_wsX7_ifDug_2 _ (List.mem_of_getElem? (i := 20) rfl)) (gi_cons (lg_wsX7_ifDug_2 _ (List.mem_of_getElem? (i := 21) rfl)) (gi_cons (lg_wsX7_ifDug_2 _ (List.mem_of_getElem? (i := 22) rfl)) (gi_cons (lg_wsX7_ifDug_2 _ (List.mem_of_getElem? (i := 23) rfl)) (gi_cons (lg_wsX7_ifDug_3 _ (List.mem_of_getElem? (i := 0) rfl)) (gi_cons (lg_wsX7_ifDug_3 _ (List.mem_of_getElem? (i := 1) rfl)) (gi_cons (lg_wsX7_ifDug_3 _ (List.mem_of_getElem? (i := 2) rfl)) (gi_cons (lg_wsX7_ifDug_3 _ (List.mem_of_getElem? (i := 3) rfl)) (gi_cons (lg_wsX7_ifDug_3 _ (List.mem_of_getElem? (i := 4) rfl)) (gi_cons (lg_wsX7_ifDug_3 _ (List.mem_of_getElem? (i := 5) rfl)) (gi_cons (lg_wsX7_ifDug_3 _ (List.mem_of_getElem? (i := 6) rfl)) (gi_cons (lg_wsX7_ifDug_3 _ (List.mem_of_getElem? (i := 7) rfl)) (gi_cons (lg_wsX7_ifDug_3 _ (List.mem_of_getElem? (i := 8) rfl)) (gi_cons (lg_wsX7_ifDug_3 _ (List.mem_of_getElem? (i := 9) rfl)) (gi_cons (lg_wsX7_ifDug_3 _ (List.mem_of_getElem? (i := 10) rfl)) (gi_cons (lg_wsX7_ifDug_3 _ (List.mem_of_getElem? (i := 11) rfl)) (gi_cons (lg_wsX7_ifDug_3 _ (List.mem_of_getElem? (i := 12) rfl)) (gi_cons (lg_wsX7_ifDug_3 _ (List.mem_of_getElem? (i := 13) rfl)) (gi_cons (lg_wsX7_ifDug_3 _ (List.mem_of_getElem? (i := 14) rfl)) gi_nil)))))))))))))))))))))))) (gi_cons (lg_wsX7_ifDug_3 _ (List.mem_of_getElem? (i := 15) rfl)) (gi_cons (lg_wsX7_ifDug_3 _ (List.mem_of_getElem? (i := 16) rfl)) (gi_cons (lg_wsX7_ifDug_3 _ (List.mem_of_getElem? (i := 17) rfl)) gi_nil)))))) ls_wsX7_ifDug_0))
set_option maxRecDepth 20000 in
theorem gX7_ifDug_X7_whenDug : GoodIn wsX7_ifDug (wsV RX7 263 RX7 yX7_whenDug wsX7_whenDug) := goodIn_app (gi_cons (lg_wsX7_ifDug_0 _ (List.mem_of_getElem? (i := 12) rfl)) (gi_cons (lg_wsX7_ifDug_0 _ (List.mem_of_getElem? (i := 13) rfl)) (gi_cons (lg_wsX7_ifDug_0 _ (List.mem_of_getElem? (i := 14) rfl)) (gi_cons (lg_wsX7_ifDug_0 _ (List.mem_of_getElem? (i := 2) rfl)) gi_nil)))) ggX7_ifDug_X7_whenDug
theorem dX7_ifDug_0 : decode cX7_ifDug 0 = .ok (.aload_n 0, 1) := by decide +kernel
theorem dX7_ifDug_1 : decode cX7_ifDug 1 = .ok (.iload_n 1, 1) := by decide +kernel
theorem dX7_ifDug_2 : decode cX7_ifDug 2 = .ok (.invokestatic 120, 3) := by decide +kernel
theorem dX7_ifDug_5 : decode cX7_ifDug 5 = .ok (.ifCond .ne 7, 3) := by decide +kernel
theorem dX7_ifDug_8 : decode cX7_ifDug 8 = .ok (.iconst 1, 1) := by decide +kernel
theorem dX7_ifDug_9 : decode cX7_ifDug 9 = .ok (.goto 17, 3) := by decide +kernel
theorem dX7_ifDug_12 : decode cX7_ifDug 12 = .ok (.iload_n 2, 1) := by decide +kernel
theorem dX7_ifDug_13 : decode cX7_ifDug 13 = .ok (.iconst 0, 1) := by decide +kernel
theorem dX7_ifDug_14 : decode cX7_ifDug 14 = .ok (.iconst 2, 1) := by decide +kernel
theorem dX7_ifDug_15 : decode cX7_ifDug 15 = .ok (.invokestatic 42, 3) := by decide +kernel
theorem dX7_ifDug_18 : decode cX7_ifDug 18 = .ok (.ifCond .ne 7, 3) := by decide +kernel
theorem dX7_ifDug_21 : decode cX7_ifDug 21 = .ok (.iconst 2, 1) := by decide +kernel
theorem dX7_ifDug_22 : decode cX7_ifDug 22 = .ok (.goto 4, 3) := by decide +kernel
theorem dX7_ifDug_25 : decode cX7_ifDug 25 = .ok (.iconst 0, 1) := by decide +kernel
theorem dX7_ifDug_26 : decode cX7_ifDug 26 = .ok (.invokevirtual 123, 3) := by decide +kernel
theorem dX7_ifDug_29 : decode cX7_ifDug 29 = .ok (.ifCond .eq 12, 3) := by decide +kernel
theorem dX7_ifDug_32 : decode cX7_ifDug 32 = .ok (.aload_n 0, 1) := by decide +kernel
theorem dX7_ifDug_33 : decode cX7_ifDug 33 = .ok (.iload_n 1, 1) := by decide +kernel
theorem dX7_ifDug_34 : decode cX7_ifDug 34 = .ok (.iload_n 2, 1) := by decide +kernel
theorem dX7_ifDug_35 : decode cX7_ifDug 35 = .ok (.invokevirtual 263, 3) := by decide +kernel
theorem dX7_ifDug_38 : decode cX7_ifDug 38 = .ok (.goto 4, 3) := by decide +kernel
theorem dX7_ifDug_41 : decode cX7_ifDug 41 = .ok (.iconst 0, 1) := by decide +kernel
theorem dX7_ifDug_42 : decode cX7_ifDug 42 = .ok (.ireturn, 1) := by decide +kernel
theorem lg_wsX7_best_0 : GoodIn wsX7_best ([.fieldLink RX7 7 "MolesLawnModel" "s" "[I", .methodLink RX7 215 yX7_tunnelsWith, .instanceMethod yX7_tunnelsWith, .selects RX7 yX7_tunnelsWith yX7_tunnelsWith, .initialized RX7, .code yX7_tunnelsWith cX7_tunnelsWith 4 (some .int), .methodLink RX7 49 yX7_endFrom, .instanceMethod yX7_endFrom, .selects RX7 yX7_endFrom yX7_endFrom, .code yX7_endFrom cX7_endFrom 3 (some .int), .methodLink RX7 56 yX7_find, .instanceMethod yX7_find, .selects RX7 yX7_find yX7_find, .code yX7_find cX7_find 7 (some .int), .methodLink RX7 53 yX7_tuftAt, .instanceMethod yX7_tuftAt, .selects RX7 yX7_tuftAt yX7_tuftAt, .code yX7_tuftAt cX7_tuftAt 2 (some .int)] : List Cond) := goodIn_sub (fun _ h => (List.mem_cons_of_mem _ (List.mem_append_left _ h))) (by decide +kernel)
theorem ls_wsX7_best_0 : GoodIn wsX7_best wsX70 := goodIn_sub (fun _ h => (List.mem_cons_of_mem _ (List.mem_append_right _ h))) (by decide +kernel)
set_option maxRecDepth 20000 in
theorem ggX7_best_X7_tunnelsWith : GoodIn wsX7_best wsX7_tunnelsWith := (gi_cons (lg_wsX7_best_0 _ (List.mem_of_getElem? (i := 5) rfl)) (goodIn_app (gi_cons (lg_wsX7_best_0 _ (List.mem_of_getElem? (i := 0) rfl)) (gi_cons (lg_wsX7_best_0 _ (List.mem_of_getElem? (i := 6) rfl)) (gi_cons (lg_wsX7_best_0 _ (List.mem_of_getElem? (i := 7) rfl)) (gi_cons (lg_wsX7_best_0 _ (List.mem_of_getElem? (i := 8) rfl)) (gi_cons (lg_wsX7_best_0 _ (List.mem_of_getElem? (i := 4) rfl)) (gi_cons (lg_wsX7_best_0 _ (List.mem_of_getElem? (i := 9) rfl)) (gi_cons (lg_wsX7_best_0 _ (List.mem_of_getElem? (i := 10) rfl)) (gi_cons (lg_wsX7_best_0 _ (List.mem_of_getElem? (i := 11) rfl)) (gi_cons (lg_wsX7_best_0 _ (List.mem_of_getElem? (i := 12) rfl)) (gi_cons (lg_wsX7_best_0 _ (List.mem_of_getElem? (i := 13) rfl)) (gi_cons (lg_wsX7_best_0 _ (List.mem_of_getElem? (i := 14) rfl)) (gi_cons (lg_wsX7_best_0 _ (List.mem_of_getElem? (i := 15) rfl)) (gi_cons (lg_wsX7_best_0 _ (List.mem_of_getElem? (i := 16) rfl)) (gi_cons (lg_wsX7_best_0 _ (List.mem_of_getElem? (i := 17) rfl)) gi_nil)))))))))))))) ls_wsX7_best_0))
set_option maxRecDepth 20000 in
theorem gX7_best_X7_tunnelsWith : GoodIn wsX7_best (wsV RX7 215 RX7 yX7_tunnelsWith wsX7_tunnelsWith) := goodIn_app (gi_cons (lg_wsX7_best_0 _ (List.mem_of_getElem? (i := 1) rfl)) (gi_cons (lg_wsX7_best_0 _ (List.mem_of_getElem? (i := 2) rfl)) (gi_cons (lg_wsX7_best_0 _ (List.mem_of_getElem? (i := 3) rfl)) (gi_cons (lg_wsX7_best_0 _ (List.mem_of_getElem? (i := 4) rfl)) gi_nil)))) ggX7_best_X7_tunnelsWith
theorem dX7_best_0 : decode cX7_best 0 = .ok (.iconst (-1), 1) := by decide +kernel
theorem dX7_best_1 : decode cX7_best 1 = .ok (.istore_n 1, 1) := by decide +kernel
theorem dX7_best_2 : decode cX7_best 2 = .ok (.iconst 0, 1) := by decide +kernel
theorem dX7_best_3 : decode cX7_best 3 = .ok (.istore_n 2, 1) := by decide +kernel
theorem dX7_best_4 : decode cX7_best 4 = .ok (.iconst 0, 1) := by decide +kernel
theorem dX7_best_5 : decode cX7_best 5 = .ok (.istore_n 3, 1) := by decide +kernel
theorem dX7_best_6 : decode cX7_best 6 = .ok (.iload_n 3, 1) := by decide +kernel
theorem dX7_best_7 : decode cX7_best 7 = .ok (.bipush 64, 2) := by decide +kernel
theorem dX7_best_9 : decode cX7_best 9 = .ok (.if_icmp .ge 59, 3) := by decide +kernel
theorem dX7_best_12 : decode cX7_best 12 = .ok (.aload_n 0, 1) := by decide +kernel
theorem dX7_best_13 : decode cX7_best 13 = .ok (.getfield 7, 3) := by decide +kernel
theorem dX7_best_16 : decode cX7_best 16 = .ok (.sipush 200, 3) := by decide +kernel
theorem dX7_best_19 : decode cX7_best 19 = .ok (.iload_n 3, 1) := by decide +kernel
theorem dX7_best_20 : decode cX7_best 20 = .ok (.iadd, 1) := by decide +kernel
theorem dX7_best_21 : decode cX7_best 21 = .ok (.iaload, 1) := by decide +kernel
theorem dX7_best_22 : decode cX7_best 22 = .ok (.iconst 1, 1) := by decide +kernel
theorem dX7_best_23 : decode cX7_best 23 = .ok (.if_icmp .ne 7, 3) := by decide +kernel
theorem dX7_best_26 : decode cX7_best 26 = .ok (.iconst 0, 1) := by decide +kernel
theorem dX7_best_27 : decode cX7_best 27 = .ok (.goto 8, 3) := by decide +kernel
theorem dX7_best_30 : decode cX7_best 30 = .ok (.aload_n 0, 1) := by decide +kernel
theorem dX7_best_31 : decode cX7_best 31 = .ok (.iload_n 3, 1) := by decide +kernel
theorem dX7_best_32 : decode cX7_best 32 = .ok (.invokevirtual 215, 3) := by decide +kernel
theorem dX7_best_35 : decode cX7_best 35 = .ok (.istore 4, 2) := by decide +kernel
theorem dX7_best_37 : decode cX7_best 37 = .ok (.iload 4, 2) := by decide +kernel
theorem dX7_best_39 : decode cX7_best 39 = .ok (.iload_n 2, 1) := by decide +kernel
theorem dX7_best_40 : decode cX7_best 40 = .ok (.if_icmp .le 7, 3) := by decide +kernel
theorem dX7_best_43 : decode cX7_best 43 = .ok (.iload_n 3, 1) := by decide +kernel
theorem dX7_best_44 : decode cX7_best 44 = .ok (.goto 4, 3) := by decide +kernel
theorem dX7_best_47 : decode cX7_best 47 = .ok (.iload_n 1, 1) := by decide +kernel
theorem dX7_best_48 : decode cX7_best 48 = .ok (.istore_n 1, 1) := by decide +kernel
theorem dX7_best_49 : decode cX7_best 49 = .ok (.iload 4, 2) := by decide +kernel
theorem dX7_best_51 : decode cX7_best 51 = .ok (.iload_n 2, 1) := by decide +kernel
theorem dX7_best_52 : decode cX7_best 52 = .ok (.if_icmp .le 8, 3) := by decide +kernel
theorem dX7_best_55 : decode cX7_best 55 = .ok (.iload 4, 2) := by decide +kernel
theorem dX7_best_57 : decode cX7_best 57 = .ok (.goto 4, 3) := by decide +kernel
theorem dX7_best_60 : decode cX7_best 60 = .ok (.iload_n 2, 1) := by decide +kernel
theorem dX7_best_61 : decode cX7_best 61 = .ok (.istore_n 2, 1) := by decide +kernel
theorem dX7_best_62 : decode cX7_best 62 = .ok (.iinc 3 1, 3) := by decide +kernel
theorem dX7_best_65 : decode cX7_best 65 = .ok (.goto (-59), 3) := by decide +kernel
theorem dX7_best_68 : decode cX7_best 68 = .ok (.iload_n 1, 1) := by decide +kernel
theorem dX7_best_69 : decode cX7_best 69 = .ok (.ireturn, 1) := by decide +kernel
theorem lg_wsX7_bestDig_0 : GoodIn wsX7_bestDig ([.fieldLink RX7 38 "MolesLawnModel" "thrown" "I", .methodLink RX7 266 yX7_best, .instanceMethod yX7_best, .selects RX7 yX7_best yX7_best, .initialized RX7, .code yX7_best cX7_best 5 (some .int), .fieldLink RX7 7 "MolesLawnModel" "s" "[I", .methodLink RX7 215 yX7_tunnelsWith, .instanceMethod yX7_tunnelsWith, .selects RX7 yX7_tunnelsWith yX7_tunnelsWith, .code yX7_tunnelsWith cX7_tunnelsWith 4 (some .int), .methodLink RX7 49 yX7_endFrom, .instanceMethod yX7_endFrom, .selects RX7 yX7_endFrom yX7_endFrom, .code yX7_endFrom cX7_endFrom 3 (some .int), .methodLink RX7 56 yX7_find, .instanceMethod yX7_find, .selects RX7 yX7_find yX7_find, .code yX7_find cX7_find 7 (some .int), .methodLink RX7 53 yX7_tuftAt, .instanceMethod yX7_tuftAt, .selects RX7 yX7_tuftAt yX7_tuftAt, .code yX7_tuftAt cX7_tuftAt 2 (some .int)] : List Cond) := goodIn_sub (fun _ h => (List.mem_cons_of_mem _ (List.mem_append_left _ h))) (by decide +kernel)
theorem ls_wsX7_bestDig_0 : GoodIn wsX7_bestDig wsX70 := goodIn_sub (fun _ h => (List.mem_cons_of_mem _ (List.mem_append_right _ h))) (by decide +kernel)
set_option maxRecDepth 20000 in
theorem ggX7_bestDig_X7_best : GoodIn wsX7_bestDig wsX7_best := (gi_cons (lg_wsX7_bestDig_0 _ (List.mem_of_getElem? (i := 5) rfl)) (goodIn_app (gi_cons (lg_wsX7_bestDig_0 _ (List.mem_of_getElem? (i := 6) rfl)) (gi_cons (lg_wsX7_bestDig_0 _ (List.mem_of_getElem? (i := 7) rfl)) (gi_cons (lg_wsX7_bestDig_0 _ (List.mem_of_getElem? (i := 8) rfl)) (gi_cons (lg_wsX7_bestDig_0 _ (List.mem_of_getElem? (i := 9) rfl)) (gi_cons (lg_wsX7_bestDig_0 _ (List.mem_of_getElem? (i := 4) rfl)) (gi_cons (lg_wsX7_bestDig_0 _ (List.mem_of_getElem? (i := 10) rfl)) (gi_cons (lg_wsX7_bestDig_0 _ (List.mem_of_getElem? (i := 11) rfl)) (gi_cons (lg_wsX7_bestDig_0 _ (List.mem_of_getElem? (i := 12) rfl)) (gi_cons (lg_wsX7_bestDig_0 _ (List.mem_of_getElem? (i := 13) rfl)) (gi_cons (lg_wsX7_bestDig_0 _ (List.mem_of_getElem? (i := 14) rfl)) (gi_cons (lg_wsX7_bestDig_0 _ (List.mem_of_getElem? (i := 15) rfl)) (gi_cons (lg_wsX7_bestDig_0 _ (List.mem_of_getElem? (i := 16) rfl)) (gi_cons (lg_wsX7_bestDig_0 _ (List.mem_of_getElem? (i := 17) rfl)) (gi_cons (lg_wsX7_bestDig_0 _ (List.mem_of_getElem? (i := 18) rfl)) (gi_cons (lg_wsX7_bestDig_0 _ (List.mem_of_getElem? (i := 19) rfl)) (gi_cons (lg_wsX7_bestDig_0 _ (List.mem_of_getElem? (i := 20) rfl)) (gi_cons (lg_wsX7_bestDig_0 _ (List.mem_of_getElem? (i := 21) rfl)) (gi_cons (lg_wsX7_bestDig_0 _ (List.mem_of_getElem? (i := 22) rfl)) gi_nil)))))))))))))))))) ls_wsX7_bestDig_0))
set_option maxRecDepth 20000 in
theorem gX7_bestDig_X7_best : GoodIn wsX7_bestDig (wsV RX7 266 RX7 yX7_best wsX7_best) := goodIn_app (gi_cons (lg_wsX7_bestDig_0 _ (List.mem_of_getElem? (i := 1) rfl)) (gi_cons (lg_wsX7_bestDig_0 _ (List.mem_of_getElem? (i := 2) rfl)) (gi_cons (lg_wsX7_bestDig_0 _ (List.mem_of_getElem? (i := 3) rfl)) (gi_cons (lg_wsX7_bestDig_0 _ (List.mem_of_getElem? (i := 4) rfl)) gi_nil)))) ggX7_bestDig_X7_best
theorem dX7_bestDig_0 : decode cX7_bestDig 0 = .ok (.aload_n 0, 1) := by decide +kernel
theorem dX7_bestDig_1 : decode cX7_bestDig 1 = .ok (.iconst 0, 1) := by decide +kernel
theorem dX7_bestDig_2 : decode cX7_bestDig 2 = .ok (.putfield 38, 3) := by decide +kernel
theorem dX7_bestDig_5 : decode cX7_bestDig 5 = .ok (.aload_n 0, 1) := by decide +kernel
theorem dX7_bestDig_6 : decode cX7_bestDig 6 = .ok (.invokevirtual 266, 3) := by decide +kernel
theorem dX7_bestDig_9 : decode cX7_bestDig 9 = .ok (.ireturn, 1) := by decide +kernel
theorem lg_wsX7_passed_0 : GoodIn wsX7_passed wsX7_passed_r1 := goodIn_sub (fun _ h => (List.mem_cons_of_mem _ (List.mem_append_left _ (List.mem_append_left _ h)))) (by decide +kernel)
theorem lg_wsX7_passed_1 : GoodIn wsX7_passed wsX7_passed_r2 := goodIn_sub (fun _ h => (List.mem_cons_of_mem _ (List.mem_append_left _ (List.mem_append_right _ (List.mem_append_left _ h))))) (by decide +kernel)
theorem lg_wsX7_passed_2 : GoodIn wsX7_passed wsX7_passed_r3 := goodIn_sub (fun _ h => (List.mem_cons_of_mem _ (List.mem_append_left _ (List.mem_append_right _ (List.mem_append_right _ (List.mem_append_left _ h)))))) (by decide +kernel)
theorem lg_wsX7_passed_3 : GoodIn wsX7_passed wsX7_passed_r4 := goodIn_sub (fun _ h => (List.mem_cons_of_mem _ (List.mem_append_left _ (List.mem_append_right _ (List.mem_append_right _ (List.mem_append_right _ (List.mem_append_left _ h))))))) (by decide +kernel)
theorem lg_wsX7_passed_4 : GoodIn wsX7_passed wsX7_passed_r5 := goodIn_sub (fun _ h => (List.mem_cons_of_mem _ (List.mem_append_left _ (List.mem_append_right _ (List.mem_append_right _ (List.mem_append_right _ (List.mem_append_right _ h))))))) (by decide +kernel)
theorem ls_wsX7_passed_0 : GoodIn wsX7_passed wsX70 := goodIn_sub (fun _ h => (List.mem_cons_of_mem _ (List.mem_append_right _ h))) (by decide +kernel)
set_option maxRecDepth 20000 in
theorem ggX7_passed_X7_putAside : GoodIn wsX7_passed wsX7_putAside := (gi_cons (lg_wsX7_passed_0 _ (List.mem_of_getElem? (i := 5) rfl)) (goodIn_app (gi_cons (lg_wsX7_passed_0 _ (List.mem_of_getElem? (i := 6) rfl)) (gi_cons (lg_wsX7_passed_0 _ (List.mem_of_getElem? (i := 0) rfl)) gi_nil)) ls_wsX7_passed_0))
set_option maxRecDepth 20000 in
theorem gX7_passed_X7_putAside : GoodIn wsX7_passed (wsV RX7 257 RX7 yX7_putAside wsX7_putAside) := goodIn_app (gi_cons (lg_wsX7_passed_0 _ (List.mem_of_getElem? (i := 1) rfl)) (gi_cons (lg_wsX7_passed_0 _ (List.mem_of_getElem? (i := 2) rfl)) (gi_cons (lg_wsX7_passed_0 _ (List.mem_of_getElem? (i := 3) rfl)) (gi_cons (lg_wsX7_passed_0 _ (List.mem_of_getElem? (i := 4) rfl)) gi_nil)))) ggX7_passed_X7_putAside
set_option maxRecDepth 20000 in
theorem ggX7_passed_X7_beats : GoodIn wsX7_passed wsX7_beats := (gi_cons (lg_wsX7_passed_0 _ (List.mem_of_getElem? (i := 10) rfl)) (goodIn_app (goodIn_app (gi_cons (lg_wsX7_passed_0 _ (List.mem_of_getElem? (i := 0) rfl)) (gi_cons (lg_wsX7_passed_0 _ (List.mem_of_getElem? (i := 11) rfl)) (gi_cons (lg_wsX7_passed_0 _ (List.mem_of_getElem? (i := 12) rfl)) (gi_cons (lg_wsX7_passed_0 _ (List.mem_of_getElem? (i := 13) rfl)) (gi_cons (lg_wsX7_passed_0 _ (List.mem_of_getElem? (i := 4) rfl)) (gi_cons (lg_wsX7_passed_0 _ (List.mem_of_getElem? (i := 14) rfl)) (gi_cons (lg_wsX7_passed_0 _ (List.mem_of_getElem? (i := 15) rfl)) (gi_cons (lg_wsX7_passed_0 _ (List.mem_of_getElem? (i := 16) rfl)) (gi_cons (lg_wsX7_passed_0 _ (List.mem_of_getElem? (i := 17) rfl)) (gi_cons (lg_wsX7_passed_0 _ (List.mem_of_getElem? (i := 18) rfl)) (gi_cons (lg_wsX7_passed_0 _ (List.mem_of_getElem? (i := 19) rfl)) (gi_cons (lg_wsX7_passed_0 _ (List.mem_of_getElem? (i := 20) rfl)) (gi_cons (lg_wsX7_passed_0 _ (List.mem_of_getElem? (i := 21) rfl)) (gi_cons (lg_wsX7_passed_0 _ (List.mem_of_getElem? (i := 22) rfl)) (gi_cons (lg_wsX7_passed_0 _ (List.mem_of_getElem? (i := 23) rfl)) (gi_cons (lg_wsX7_passed_1 _ (List.mem_of_getElem? (i := 0) rfl)) (gi_cons (lg_wsX7_passed_1 _ (List.mem_of_getElem? (i := 1) rfl)) (gi_cons (lg_wsX7_passed_1 _ (List.mem_of_getElem? (i := 2) rfl)) (gi_cons (lg_wsX7_passed_1 _ (List.mem_of_getElem? (i := 3) rfl)) (gi_cons (lg_wsX7_passed_1 _ (List.mem_of_getElem? (i := 4) rfl)) (gi_cons (lg_wsX7_passed_1 _ (List.mem_of_getElem? (i := 5) rfl)) (gi_cons (lg_wsX7_passed_1 _ (List.mem_of_getElem? (i := 6) rfl)) (gi_cons (lg_wsX7_passed_1 _ (List.mem_of_getElem? (i := 7) rfl)) (gi_cons (lg_wsX7_passed_1 _ (List.mem_of_getElem? (i := 8) rfl)) gi_nil)))))))))))))))))))))))) (goodIn_app (gi_cons (lg_wsX7_passed_1 _ (List.mem_of_getElem? (i := 9) rfl)) (gi_cons (lg_wsX7_passed_1 _ (List.mem_of_getElem? (i := 10) rfl)) (gi_cons (lg_wsX7_passed_1 _ (List.mem_of_getElem? (i := 11) rfl)) (gi_cons (lg_wsX7_passed_1 _ (List.mem_of_getElem? (i := 12) rfl)) (gi_cons (lg_wsX7_passed_1 _ (List.mem_of_getElem? (i := 13) rfl)) (gi_cons (lg_wsX7_passed_1 _ (List.mem_of_getElem? (i := 14) rfl)) (gi_cons (lg_wsX7_passed_1 _ (List.mem_of_getElem? (i := 15) rfl)) (gi_cons (lg_wsX7_passed_1 _ (List.mem_of_getElem? (i := 16) rfl)) (gi_cons (lg_wsX7_passed_1 _ (List.mem_of_getElem? (i := 17) rfl)) (gi_cons (lg_wsX7_passed_1 _ (List.mem_of_getElem? (i := 18) rfl)) (gi_cons (lg_wsX7_passed_1 _ (List.mem_of_getElem? (i := 19) rfl)) (gi_cons (lg_wsX7_passed_1 _ (List.mem_of_getElem? (i := 20) rfl)) (gi_cons (lg_wsX7_passed_1 _ (List.mem_of_getElem? (i := 21) rfl)) (gi_cons (lg_wsX7_passed_1 _ (List.mem_of_getElem? (i := 22) rfl)) (gi_cons (lg_wsX7_passed_1 _ (List.mem_of_getElem? (i := 23) rfl)) (gi_cons (lg_wsX7_passed_2 _ (List.mem_of_getElem? (i := 0) rfl)) (gi_cons (lg_wsX7_passed_2 _ (List.mem_of_getElem? (i := 1) rfl)) (gi_cons (lg_wsX7_passed_2 _ (List.mem_of_getElem? (i := 2) rfl)) (gi_cons (lg_wsX7_passed_2 _ (List.mem_of_getElem? (i := 3) rfl)) (gi_cons (lg_wsX7_passed_2 _ (List.mem_of_getElem? (i := 4) rfl)) (gi_cons (lg_wsX7_passed_2 _ (List.mem_of_getElem? (i := 5) rfl)) (gi_cons (lg_wsX7_passed_2 _ (List.mem_of_getElem? (i := 6) rfl)) (gi_cons (lg_wsX7_passed_2 _ (List.mem_of_getElem? (i := 7) rfl)) (gi_cons (lg_wsX7_passed_2 _ (List.mem_of_getElem? (i := 8) rfl)) gi_nil)))))))))))))))))))))))) (goodIn_app (gi_cons (lg_wsX7_passed_2 _ (List.mem_of_getElem? (i := 9) rfl)) (gi_cons (lg_wsX7_passed_2 _ (List.mem_of_getElem? (i := 10) rfl)) (gi_cons (lg_wsX7_passed_2 _ (List.mem_of_getElem? (i := 11) rfl)) (gi_cons (lg_wsX7_passed_2 _ (List.mem_of_getElem? (i := 12) rfl)) (gi_cons (lg_wsX7_passed_2 _ (List.mem_of_getElem? (i := 13) rfl)) (gi_cons (lg_wsX7_passed_2 _ (List.mem_of_getElem? (i := 14) rfl)) (gi_cons (lg_wsX7_passed_2 _ (List.mem_of_getElem? (i := 15) rfl)) (gi_cons (lg_wsX7_passed_2 _ (List.mem_of_getElem? (i := 16) rfl)) (gi_cons (lg_wsX7_passed_2 _ (List.mem_of_getElem? (i := 17) rfl)) (gi_cons (lg_wsX7_passed_2 _ (List.mem_of_getElem? (i := 18) rfl)) (gi_cons (lg_wsX7_passed_2 _ (List.mem_of_getElem? (i := 19) rfl)) (gi_cons (lg_wsX7_passed_2 _ (List.mem_of_getElem? (i := 20) rfl)) (gi_cons (lg_wsX7_passed_2 _ (List.mem_of_getElem? (i := 21) rfl)) (gi_cons (lg_wsX7_passed_2 _ (List.mem_of_getElem? (i := 22) rfl)) (gi_cons (lg_wsX7_passed_2 _ (List.mem_of_getElem? (i := 23) rfl)) (gi_cons (lg_wsX7_passed_3 _ (List.mem_of_getElem? (i := 0) rfl)) (gi_cons (lg_wsX7_passed_3 _ (List.mem_of_getElem? (i := 1) rfl)) (gi_cons (lg_wsX7_passed_3 _ (List.mem_of_getElem? (i := 2) rfl)) (gi_cons (lg_wsX7_passed_3 _ (List.mem_of_getElem? (i := 3) rfl)) (gi_cons (lg_wsX7_passed_3 _ (List.mem_of_getElem? (i := 4) rfl)) (gi_cons (lg_wsX7_passed_3 _ (List.mem_of_getElem? (i := 5) rfl)) (gi_cons (lg_wsX7_passed_3 _ (List.mem_of_getElem? (i := 6) rfl)) (gi_cons (lg_wsX7_passed_3 _ (List.mem_of_getElem? (i := 7) rfl)) (gi_cons (lg_wsX7_passed_3 _ (List.mem_of_getElem? (i := 8) rfl)) gi_nil)))))))))))))))))))))))) (gi_cons (lg_wsX7_passed_3 _ (List.mem_of_getElem? (i := 9) rfl)) (gi_cons (lg_wsX7_passed_3 _ (List.mem_of_getElem? (i := 10) rfl)) (gi_cons (lg_wsX7_passed_3 _ (List.mem_of_getElem? (i := 11) rfl)) (gi_cons (lg_wsX7_passed_3 _ (List.mem_of_getElem? (i := 12) rfl)) (gi_cons (lg_wsX7_passed_3 _ (List.mem_of_getElem? (i := 13) rfl)) (gi_cons (lg_wsX7_passed_3 _ (List.mem_of_getElem? (i := 14) rfl)) (gi_cons (lg_wsX7_passed_3 _ (List.mem_of_getElem? (i := 15) rfl)) (gi_cons (lg_wsX7_passed_3 _ (List.mem_of_getElem? (i := 16) rfl)) (gi_cons (lg_wsX7_passed_3 _ (List.mem_of_getElem? (i := 17) rfl)) (gi_cons (lg_wsX7_passed_3 _ (List.mem_of_getElem? (i := 18) rfl)) gi_nil))))))))))))) ls_wsX7_passed_0))
set_option maxRecDepth 20000 in
theorem gX7_passed_X7_beats : GoodIn wsX7_passed (wsV RX7 132 RX7 yX7_beats wsX7_beats) := goodIn_app (gi_cons (lg_wsX7_passed_0 _ (List.mem_of_getElem? (i := 7) rfl)) (gi_cons (lg_wsX7_passed_0 _ (List.mem_of_getElem? (i := 8) rfl)) (gi_cons (lg_wsX7_passed_0 _ (List.mem_of_getElem? (i := 9) rfl)) (gi_cons (lg_wsX7_passed_0 _ (List.mem_of_getElem? (i := 4) rfl)) gi_nil)))) ggX7_passed_X7_beats
set_option maxRecDepth 20000 in
theorem ggX7_passed_X7_tunnels : GoodIn wsX7_passed wsX7_tunnels := (gi_cons (lg_wsX7_passed_3 _ (List.mem_of_getElem? (i := 22) rfl)) (goodIn_app (gi_cons (lg_wsX7_passed_0 _ (List.mem_of_getElem? (i := 0) rfl)) gi_nil) ls_wsX7_passed_0))
set_option maxRecDepth 20000 in
theorem gX7_passed_X7_tunnels : GoodIn wsX7_passed (wsV RX7 194 RX7 yX7_tunnels wsX7_tunnels) := goodIn_app (gi_cons (lg_wsX7_passed_3 _ (List.mem_of_getElem? (i := 19) rfl)) (gi_cons (lg_wsX7_passed_3 _ (List.mem_of_getElem? (i := 20) rfl)) (gi_cons (lg_wsX7_passed_3 _ (List.mem_of_getElem? (i := 21) rfl)) (gi_cons (lg_wsX7_passed_0 _ (List.mem_of_getElem? (i := 4) rfl)) gi_nil)))) ggX7_passed_X7_tunnels
set_option maxRecDepth 20000 in
theorem ggX7_passed_X7_putBack : GoodIn wsX7_passed wsX7_putBack := (gi_cons (lg_wsX7_passed_4 _ (List.mem_of_getElem? (i := 2) rfl)) (goodIn_app (gi_cons (lg_wsX7_passed_0 _ (List.mem_of_getElem? (i := 0) rfl)) (gi_cons (lg_wsX7_passed_0 _ (List.mem_of_getElem? (i := 6) rfl)) gi_nil)) ls_wsX7_passed_0))
set_option maxRecDepth 20000 in
theorem gX7_passed_X7_putBack : GoodIn wsX7_passed (wsV RX7 260 RX7 yX7_putBack wsX7_putBack) := goodIn_app (gi_cons (lg_wsX7_passed_3 _ (List.mem_of_getElem? (i := 23) rfl)) (gi_cons (lg_wsX7_passed_4 _ (List.mem_of_getElem? (i := 0) rfl)) (gi_cons (lg_wsX7_passed_4 _ (List.mem_of_getElem? (i := 1) rfl)) (gi_cons (lg_wsX7_passed_0 _ (List.mem_of_getElem? (i := 4) rfl)) gi_nil)))) ggX7_passed_X7_putBack
theorem dX7_passed_0 : decode cX7_passed 0 = .ok (.aload_n 0, 1) := by decide +kernel
theorem dX7_passed_1 : decode cX7_passed 1 = .ok (.invokevirtual 257, 3) := by decide +kernel
theorem dX7_passed_4 : decode cX7_passed 4 = .ok (.aload_n 0, 1) := by decide +kernel
theorem dX7_passed_5 : decode cX7_passed 5 = .ok (.getfield 7, 3) := by decide +kernel
theorem dX7_passed_8 : decode cX7_passed 8 = .ok (.iconst 2, 1) := by decide +kernel
theorem dX7_passed_9 : decode cX7_passed 9 = .ok (.iaload, 1) := by decide +kernel
theorem dX7_passed_10 : decode cX7_passed 10 = .ok (.istore_n 3, 1) := by decide +kernel
theorem dX7_passed_11 : decode cX7_passed 11 = .ok (.aload_n 0, 1) := by decide +kernel
theorem dX7_passed_12 : decode cX7_passed 12 = .ok (.iload_n 1, 1) := by decide +kernel
theorem dX7_passed_13 : decode cX7_passed 13 = .ok (.invokevirtual 132, 3) := by decide +kernel
theorem dX7_passed_16 : decode cX7_passed 16 = .ok (.istore 4, 2) := by decide +kernel
theorem dX7_passed_18 : decode cX7_passed 18 = .ok (.iload_n 2, 1) := by decide +kernel
theorem dX7_passed_19 : decode cX7_passed 19 = .ok (.ifCond .ne 8, 3) := by decide +kernel
theorem dX7_passed_22 : decode cX7_passed 22 = .ok (.iload 4, 2) := by decide +kernel
theorem dX7_passed_24 : decode cX7_passed 24 = .ok (.goto 23, 3) := by decide +kernel
theorem dX7_passed_27 : decode cX7_passed 27 = .ok (.iload_n 2, 1) := by decide +kernel
theorem dX7_passed_28 : decode cX7_passed 28 = .ok (.iconst 1, 1) := by decide +kernel
theorem dX7_passed_29 : decode cX7_passed 29 = .ok (.if_icmp .ne 10, 3) := by decide +kernel
theorem dX7_passed_32 : decode cX7_passed 32 = .ok (.aload_n 0, 1) := by decide +kernel
theorem dX7_passed_33 : decode cX7_passed 33 = .ok (.invokevirtual 194, 3) := by decide +kernel
theorem dX7_passed_36 : decode cX7_passed 36 = .ok (.goto 11, 3) := by decide +kernel
theorem dX7_passed_39 : decode cX7_passed 39 = .ok (.aload_n 0, 1) := by decide +kernel
theorem dX7_passed_40 : decode cX7_passed 40 = .ok (.getfield 7, 3) := by decide +kernel
theorem dX7_passed_43 : decode cX7_passed 43 = .ok (.iconst 2, 1) := by decide +kernel
theorem dX7_passed_44 : decode cX7_passed 44 = .ok (.iaload, 1) := by decide +kernel
theorem dX7_passed_45 : decode cX7_passed 45 = .ok (.iload_n 3, 1) := by decide +kernel
theorem dX7_passed_46 : decode cX7_passed 46 = .ok (.isub, 1) := by decide +kernel
theorem dX7_passed_47 : decode cX7_passed 47 = .ok (.istore 5, 2) := by decide +kernel
theorem dX7_passed_49 : decode cX7_passed 49 = .ok (.aload_n 0, 1) := by decide +kernel
theorem dX7_passed_50 : decode cX7_passed 50 = .ok (.invokevirtual 260, 3) := by decide +kernel
theorem dX7_passed_53 : decode cX7_passed 53 = .ok (.iload 5, 2) := by decide +kernel
theorem dX7_passed_55 : decode cX7_passed 55 = .ok (.ireturn, 1) := by decide +kernel
theorem lg_wsX7_ifPassed_0 : GoodIn wsX7_ifPassed wsX7_ifPassed_r1 := goodIn_sub (fun _ h => (List.mem_cons_of_mem _ (List.mem_append_left _ (List.mem_append_left _ h)))) (by decide +kernel)
theorem lg_wsX7_ifPassed_1 : GoodIn wsX7_ifPassed wsX7_ifPassed_r2 := goodIn_sub (fun _ h => (List.mem_cons_of_mem _ (List.mem_append_left _ (List.mem_append_right _ (List.mem_append_left _ h))))) (by decide +kernel)
theorem lg_wsX7_ifPassed_2 : GoodIn wsX7_ifPassed wsX7_ifPassed_r3 := goodIn_sub (fun _ h => (List.mem_cons_of_mem _ (List.mem_append_left _ (List.mem_append_right _ (List.mem_append_right _ (List.mem_append_left _ h)))))) (by decide +kernel)
theorem lg_wsX7_ifPassed_3 : GoodIn wsX7_ifPassed wsX7_ifPassed_r4 := goodIn_sub (fun _ h => (List.mem_cons_of_mem _ (List.mem_append_left _ (List.mem_append_right _ (List.mem_append_right _ (List.mem_append_right _ (List.mem_append_left _ h))))))) (by decide +kernel)
theorem lg_wsX7_ifPassed_4 : GoodIn wsX7_ifPassed wsX7_ifPassed_r5 := goodIn_sub (fun _ h => (List.mem_cons_of_mem _ (List.mem_append_left _ (List.mem_append_right _ (List.mem_append_right _ (List.mem_append_right _ (List.mem_append_right _ h))))))) (by decide +kernel)
theorem ls_wsX7_ifPassed_0 : GoodIn wsX7_ifPassed wsX70 := goodIn_sub (fun _ h => (List.mem_cons_of_mem _ (List.mem_append_right _ h))) (by decide +kernel)
set_option maxRecDepth 20000 in
theorem ggX7_ifPassed_X7_in : GoodIn wsX7_ifPassed wsX7_in := (gi_cons (lg_wsX7_ifPassed_0 _ (List.mem_of_getElem? (i := 3) rfl)) gi_nil)
set_option maxRecDepth 20000 in
theorem gX7_ifPassed_X7_in : GoodIn wsX7_ifPassed (va_wsS RX7 42 yX7_in wsX7_in) := goodIn_app (gi_cons (lg_wsX7_ifPassed_0 _ (List.mem_of_getElem? (i := 0) rfl)) (gi_cons (lg_wsX7_ifPassed_0 _ (List.mem_of_getElem? (i := 1) rfl)) (gi_cons (lg_wsX7_ifPassed_0 _ (List.mem_of_getElem? (i := 2) rfl)) gi_nil))) ggX7_ifPassed_X7_in
set_option maxRecDepth 20000 in
theorem ggX7_ifPassed_X7_holds : GoodIn wsX7_ifPassed wsX7_holds := (gi_cons (lg_wsX7_ifPassed_0 _ (List.mem_of_getElem? (i := 7) rfl)) (goodIn_app (gi_cons (lg_wsX7_ifPassed_0 _ (List.mem_of_getElem? (i := 8) rfl)) gi_nil) ls_wsX7_ifPassed_0))
set_option maxRecDepth 20000 in
theorem gX7_ifPassed_X7_holds : GoodIn wsX7_ifPassed (wsV RX7 123 RX7 yX7_holds wsX7_holds) := goodIn_app (gi_cons (lg_wsX7_ifPassed_0 _ (List.mem_of_getElem? (i := 4) rfl)) (gi_cons (lg_wsX7_ifPassed_0 _ (List.mem_of_getElem? (i := 5) rfl)) (gi_cons (lg_wsX7_ifPassed_0 _ (List.mem_of_getElem? (i := 6) rfl)) (gi_cons (lg_wsX7_ifPassed_0 _ (List.mem_of_getElem? (i := 2) rfl)) gi_nil)))) ggX7_ifPassed_X7_holds
set_option maxRecDepth 20000 in
theorem ggX7_ifPassed_X7_passed : GoodIn wsX7_ifPassed wsX7_passed := (gi_cons (lg_wsX7_ifPassed_0 _ (List.mem_of_getElem? (i := 12) rfl)) (goodIn_app (goodIn_app (gi_cons (lg_wsX7_ifPassed_0 _ (List.mem_of_getElem? (i := 13) rfl)) (gi_cons (lg_wsX7_ifPassed_0 _ (List.mem_of_getElem? (i := 14) rfl)) (gi_cons (lg_wsX7_ifPassed_0 _ (List.mem_of_getElem? (i := 15) rfl)) (gi_cons (lg_wsX7_ifPassed_0 _ (List.mem_of_getElem? (i := 16) rfl)) (gi_cons (lg_wsX7_ifPassed_0 _ (List.mem_of_getElem? (i := 2) rfl)) (gi_cons (lg_wsX7_ifPassed_0 _ (List.mem_of_getElem? (i := 17) rfl)) (gi_cons (lg_wsX7_ifPassed_0 _ (List.mem_of_getElem? (i := 18) rfl)) (gi_cons (lg_wsX7_ifPassed_0 _ (List.mem_of_getElem? (i := 19) rfl)) (gi_cons (lg_wsX7_ifPassed_0 _ (List.mem_of_getElem? (i := 20) rfl)) (gi_cons (lg_wsX7_ifPassed_0 _ (List.mem_of_getElem? (i := 21) rfl)) (gi_cons (lg_wsX7_ifPassed_0 _ (List.mem_of_getElem? (i := 22) rfl)) (gi_cons (lg_wsX7_ifPassed_0 _ (List.mem_of_getElem? (i := 23) rfl)) (gi_cons (lg_wsX7_ifPassed_1 _ (List.mem_of_getElem? (i := 0) rfl)) (gi_cons (lg_wsX7_ifPassed_1 _ (List.mem_of_getElem? (i := 1) rfl)) (gi_cons (lg_wsX7_ifPassed_1 _ (List.mem_of_getElem? (i := 2) rfl)) (gi_cons (lg_wsX7_ifPassed_1 _ (List.mem_of_getElem? (i := 3) rfl)) (gi_cons (lg_wsX7_ifPassed_1 _ (List.mem_of_getElem? (i := 4) rfl)) (gi_cons (lg_wsX7_ifPassed_1 _ (List.mem_of_getElem? (i := 5) rfl)) (gi_cons (lg_wsX7_ifPassed_1 _ (List.mem_of_getElem? (i := 6) rfl)) (gi_cons (lg_wsX7_ifPassed_1 _ (List.mem_of_getElem? (i := 7) rfl)) (gi_cons (lg_wsX7_ifPassed_1 _ (List.mem_of_getElem? (i := 8) rfl)) (gi_cons (lg_wsX7_ifPassed_1 _ (List.mem_of_getElem? (i := 9) rfl)) (gi_cons (lg_wsX7_ifPassed_1 _ (List.mem_of_getElem? (i := 10) rfl)) (gi_cons (lg_wsX7_ifPassed_1 _ (List.mem_of_getElem? (i := 11) rfl)) gi_nil)))))))))))))))))))))))) (goodIn_app (gi_cons (lg_wsX7_ifPassed_1 _ (List.mem_of_getElem? (i := 12) rfl)) (gi_cons (lg_wsX7_ifPassed_1 _ (List.mem_of_getElem? (i := 13) rfl)) (gi_cons (lg_wsX7_ifPassed_1 _ (List.mem_of_getElem? (i := 14) rfl)) (gi_cons (lg_wsX7_ifPassed_1 _ (List.mem_of_getElem? (i := 15) rfl)) (gi_cons (lg_wsX7_ifPassed_0 _ (List.mem_of_getElem? (i := 0) rfl)) (gi_cons (lg_wsX7_ifPassed_0 _ (List.mem_of_getElem? (i := 1) rfl)) (gi_cons (lg_wsX7_ifPassed_0 _ (List.mem_of_getElem? (i := 3) rfl)) (gi_cons (lg_wsX7_ifPassed_1 _ (List.mem_of_getElem? (i := 16) rfl)) (gi_cons (lg_wsX7_ifPassed_1 _ (List.mem_of_getElem? (i := 17) rfl)) (gi_cons (lg_wsX7_ifPassed_1 _ (List.mem_of_getElem? (i := 18) rfl)) (gi_cons (lg_wsX7_ifPassed_1 _ (List.mem_of_getElem? (i := 19) rfl)) (gi_cons (lg_wsX7_ifPassed_1 _ (List.mem_of_getElem? (i := 20) rfl)) (gi_cons (lg_wsX7_ifPassed_1 _ (List.mem_of_getElem? (i := 21) rfl)) (gi_cons (lg_wsX7_ifPassed_1 _ (List.mem_of_getElem? (i := 22) rfl)) (gi_cons (lg_wsX7_ifPassed_1 _ (List.mem_of_getElem? (i := 23) rfl)) (gi_cons (lg_wsX7_ifPassed_2 _ (List.mem_of_getElem? (i := 0) rfl)) (gi_cons (lg_wsX7_ifPassed_2 _ (List.mem_of_getElem? (i := 1) rfl)) (gi_cons (lg_wsX7_ifPassed_2 _ (List.mem_of_getElem? (i := 2) rfl)) (gi_cons (lg_wsX7_ifPassed_2 _ (List.mem_of_getElem? (i := 3) rfl)) (gi_cons (lg_wsX7_ifPassed_2 _ (List.mem_of_getElem? (i := 4) rfl)) (gi_cons (lg_wsX7_ifPassed_2 _ (List.mem_of_getElem? (i := 5) rfl)) (gi_cons (lg_wsX7_ifPassed_2 _ (List.mem_of_getElem? (i := 6) rfl)) (gi_cons (lg_wsX7_ifPassed_2 _ (List.mem_of_getElem? (i := 7) rfl)) (gi_cons (lg_wsX7_ifPassed_2 _ (List.mem_of_getElem? (i := 8) rfl)) gi_nil)))))))))))))))))))))))) (goodIn_app (gi_cons (lg_wsX7_ifPassed_2 _ (List.mem_of_getElem? (i := 9) rfl)) (gi_cons (lg_wsX7_ifPassed_2 _ (List.mem_of_getElem? (i := 10) rfl)) (gi_cons (lg_wsX7_ifPassed_2 _ (List.mem_of_getElem? (i := 11) rfl)) (gi_cons (lg_wsX7_ifPassed_2 _ (List.mem_of_getElem? (i := 12) rfl)) (gi_cons (lg_wsX7_ifPassed_2 _ (List.mem_of_getElem? (i := 13) rfl)) (gi_cons (lg_wsX7_ifPassed_2 _ (List.mem_of_getElem? (i := 14) rfl)) (gi_cons (lg_wsX7_ifPassed_2 _ (List.mem_of_getElem? (i := 15) rfl)) (gi_cons (lg_wsX7_ifPassed_2 _ (List.mem_of_getElem? (i := 16) rfl)) (gi_cons (lg_wsX7_ifPassed_2 _ (List.mem_of_getElem? (i := 17) rfl)) (gi_cons (lg_wsX7_ifPassed_2 _ (List.mem_of_getElem? (i := 18) rfl)) (gi_cons (lg_wsX7_ifPassed_2 _ (List.mem_of_getElem? (i := 19) rfl)) (gi_cons (lg_wsX7_ifPassed_2 _ (List.mem_of_getElem? (i := 20) rfl)) (gi_cons (lg_wsX7_ifPassed_2 _ (List.mem_of_getElem? (i := 21) rfl)) (gi_cons (lg_wsX7_ifPassed_2 _ (List.mem_of_getElem? (i := 22) rfl)) (gi_cons (lg_wsX7_ifPassed_2 _ (List.mem_of_getElem? (i := 23) rfl)) (gi_cons (lg_wsX7_ifPassed_3 _ (List.mem_of_getElem? (i := 0) rfl)) (gi_cons (lg_wsX7_ifPassed_3 _ (List.mem_of_getElem? (i := 1) rfl)) (gi_cons (lg_wsX7_ifPassed_3 _ (List.mem_of_getElem? (i := 2) rfl)) (gi_cons (lg_wsX7_ifPassed_3 _ (List.mem_of_getElem? (i := 3) rfl)) (gi_cons (lg_wsX7_ifPassed_3 _ (List.mem_of_getElem? (i := 4) rfl)) (gi_cons (lg_wsX7_ifPassed_3 _ (List.mem_of_getElem? (i := 5) rfl)) (gi_cons (lg_wsX7_ifPassed_3 _ (List.mem_of_getElem? (i := 6) rfl)) (gi_cons (lg_wsX7_ifPassed_3 _ (List.mem_of_getElem? (i := 7) rfl)) (gi_cons (lg_wsX7_ifPassed_3 _ (List.mem_of_getElem? (i := 8) rfl)) gi_nil)))))))))))))))))))))))) (goodIn_app (gi_cons (lg_wsX7_ifPassed_3 _ (List.mem_of_getElem? (i := 9) rfl)) (gi_cons (lg_wsX7_ifPassed_3 _ (List.mem_of_getElem? (i := 10) rfl)) (gi_cons (lg_wsX7_ifPassed_3 _ (List.mem_of_getElem? (i := 11) rfl)) (gi_cons (lg_wsX7_ifPassed_3 _ (List.mem_of_getElem? (i := 12) rfl)) (gi_cons (lg_wsX7_ifPassed_3 _ (List.mem_of_getElem? (i := 13) rfl)) (gi_cons (lg_wsX7_ifPassed_3 _ (List.mem_of_getElem? (i := 14) rfl)) (gi_cons (lg_wsX7_ifPassed_3 _ (List.mem_of_getElem? (i := 15) rfl)) (gi_cons (lg_wsX7_ifPassed_3 _ (List.mem_of_getElem? (i := 16) rfl)) (gi_cons (lg_wsX7_ifPassed_3 _ (List.mem_of_getElem? (i := 17) rfl)) (gi_cons (lg_wsX7_ifPassed_3 _ (List.mem_of_getElem? (i := 18) rfl)) (gi_cons (lg_wsX7_ifPassed_3 _ (List.mem_of_getElem? (i := 19) rfl)) (gi_cons (lg_wsX7_ifPassed_3 _ (List.mem_of_getElem? (i := 20) rfl)) (gi_cons (lg_wsX7_ifPassed_3 _ (List.mem_of_getElem? (i := 21) rfl)) (gi_cons (lg_wsX7_ifPassed_3 _ (List.mem_of_getElem? (i := 22) rfl)) (gi_cons (lg_wsX7_ifPassed_3 _ (List.mem_of_getElem? (i := 23) rfl)) (gi_cons (lg_wsX7_ifPassed_4 _ (List.mem_of_getElem? (i := 0) rfl)) (gi_cons (lg_wsX7_ifPassed_4 _ (List.mem_of_getElem? (i := 1) rfl)) (gi_cons (lg_wsX7_ifPassed_4 _ (List.mem_of_getElem? (i := 2) rfl)) (gi_cons (lg_wsX7_ifPassed_4 _ (List.mem_of_getElem? (i := 3) rfl)) (gi_cons (lg_wsX7_ifPassed_4 _ (List.mem_of_getElem? (i := 4) rfl)) (gi_cons (lg_wsX7_ifPassed_4 _ (List.mem_of_getElem? (i := 5) rfl)) (gi_cons (lg_wsX7_ifPassed_4 _ (List.mem_of_getElem? (i := 6) rfl)) (gi_cons (lg_wsX7_ifPassed_4 _ (List.mem_of_getElem? (i := 7) rfl)) (gi_cons (lg_wsX7_ifPassed_4 _ (List.mem_of_getElem? (i := 8) rfl)) gi_nil)))))))))))))))))))))))) (gi_cons (lg_wsX7_ifPassed_4 _ (List.mem_of_getElem? (i := 9) rfl)) (gi_cons (lg_wsX7_ifPassed_4 _ (List.mem_of_getElem? (i := 10) rfl)) (gi_cons (lg_wsX7_ifPassed_4 _ (List.mem_of_getElem? (i := 11) rfl)) gi_nil))))))) ls_wsX7_ifPassed_0))
set_option maxRecDepth 20000 in
theorem gX7_ifPassed_X7_passed : GoodIn wsX7_ifPassed (wsV RX7 269 RX7 yX7_passed wsX7_passed) := goodIn_app (gi_cons (lg_wsX7_ifPassed_0 _ (List.mem_of_getElem? (i := 9) rfl)) (gi_cons (lg_wsX7_ifPassed_0 _ (List.mem_of_getElem? (i := 10) rfl)) (gi_cons (lg_wsX7_ifPassed_0 _ (List.mem_of_getElem? (i := 11) rfl)) (gi_cons (lg_wsX7_ifPassed_0 _ (List.mem_of_getElem? (i := 2) rfl)) gi_nil)))) ggX7_ifPassed_X7_passed
theorem dX7_ifPassed_0 : decode cX7_ifPassed 0 = .ok (.aload_n 0, 1) := by decide +kernel
theorem dX7_ifPassed_1 : decode cX7_ifPassed 1 = .ok (.iload_n 1, 1) := by decide +kernel
theorem dX7_ifPassed_2 : decode cX7_ifPassed 2 = .ok (.iconst 1, 1) := by decide +kernel
theorem dX7_ifPassed_3 : decode cX7_ifPassed 3 = .ok (.bipush 30, 2) := by decide +kernel
theorem dX7_ifPassed_5 : decode cX7_ifPassed 5 = .ok (.invokestatic 42, 3) := by decide +kernel
theorem dX7_ifPassed_8 : decode cX7_ifPassed 8 = .ok (.ifCond .eq 16, 3) := by decide +kernel
theorem dX7_ifPassed_11 : decode cX7_ifPassed 11 = .ok (.iload_n 2, 1) := by decide +kernel
theorem dX7_ifPassed_12 : decode cX7_ifPassed 12 = .ok (.iconst 0, 1) := by decide +kernel
theorem dX7_ifPassed_13 : decode cX7_ifPassed 13 = .ok (.iconst 2, 1) := by decide +kernel
theorem dX7_ifPassed_14 : decode cX7_ifPassed 14 = .ok (.invokestatic 42, 3) := by decide +kernel
theorem dX7_ifPassed_17 : decode cX7_ifPassed 17 = .ok (.ifCond .eq 7, 3) := by decide +kernel
theorem dX7_ifPassed_20 : decode cX7_ifPassed 20 = .ok (.iconst 0, 1) := by decide +kernel
theorem dX7_ifPassed_21 : decode cX7_ifPassed 21 = .ok (.goto 4, 3) := by decide +kernel
theorem dX7_ifPassed_24 : decode cX7_ifPassed 24 = .ok (.iconst 1, 1) := by decide +kernel
theorem dX7_ifPassed_25 : decode cX7_ifPassed 25 = .ok (.invokevirtual 123, 3) := by decide +kernel
theorem dX7_ifPassed_28 : decode cX7_ifPassed 28 = .ok (.ifCond .eq 12, 3) := by decide +kernel
theorem dX7_ifPassed_31 : decode cX7_ifPassed 31 = .ok (.aload_n 0, 1) := by decide +kernel
theorem dX7_ifPassed_32 : decode cX7_ifPassed 32 = .ok (.iload_n 1, 1) := by decide +kernel
theorem dX7_ifPassed_33 : decode cX7_ifPassed 33 = .ok (.iload_n 2, 1) := by decide +kernel
theorem dX7_ifPassed_34 : decode cX7_ifPassed 34 = .ok (.invokevirtual 269, 3) := by decide +kernel
theorem dX7_ifPassed_37 : decode cX7_ifPassed 37 = .ok (.goto 4, 3) := by decide +kernel
theorem dX7_ifPassed_40 : decode cX7_ifPassed 40 = .ok (.iconst 0, 1) := by decide +kernel
theorem dX7_ifPassed_41 : decode cX7_ifPassed 41 = .ok (.ireturn, 1) := by decide +kernel
theorem lg_wsX7_whenMound_0 : GoodIn wsX7_whenMound wsX7_whenMound_r1 := goodIn_sub (fun _ h => (List.mem_cons_of_mem _ (List.mem_append_left _ (List.mem_append_left _ h)))) (by decide +kernel)
theorem lg_wsX7_whenMound_1 : GoodIn wsX7_whenMound wsX7_whenMound_r2 := goodIn_sub (fun _ h => (List.mem_cons_of_mem _ (List.mem_append_left _ (List.mem_append_right _ (List.mem_append_left _ h))))) (by decide +kernel)
theorem lg_wsX7_whenMound_2 : GoodIn wsX7_whenMound wsX7_whenMound_r3 := goodIn_sub (fun _ h => (List.mem_cons_of_mem _ (List.mem_append_left _ (List.mem_append_right _ (List.mem_append_right _ (List.mem_append_left _ h)))))) (by decide +kernel)
theorem lg_wsX7_whenMound_3 : GoodIn wsX7_whenMound wsX7_whenMound_r4 := goodIn_sub (fun _ h => (List.mem_cons_of_mem _ (List.mem_append_left _ (List.mem_append_right _ (List.mem_append_right _ (List.mem_append_right _ h)))))) (by decide +kernel)
theorem ls_wsX7_whenMound_0 : GoodIn wsX7_whenMound wsX70 := goodIn_sub (fun _ h => (List.mem_cons_of_mem _ (List.mem_append_right _ h))) (by decide +kernel)
set_option maxRecDepth 20000 in
theorem ggX7_whenMound_X7_putAside : GoodIn wsX7_whenMound wsX7_putAside := (gi_cons (lg_wsX7_whenMound_0 _ (List.mem_of_getElem? (i := 4) rfl)) (goodIn_app (gi_cons (lg_wsX7_whenMound_0 _ (List.mem_of_getElem? (i := 5) rfl)) (gi_cons (lg_wsX7_whenMound_0 _ (List.mem_of_getElem? (i := 6) rfl)) gi_nil)) ls_wsX7_whenMound_0))
set_option maxRecDepth 20000 in
theorem gX7_whenMound_X7_putAside : GoodIn wsX7_whenMound (wsV RX7 257 RX7 yX7_putAside wsX7_putAside) := goodIn_app (gi_cons (lg_wsX7_whenMound_0 _ (List.mem_of_getElem? (i := 0) rfl)) (gi_cons (lg_wsX7_whenMound_0 _ (List.mem_of_getElem? (i := 1) rfl)) (gi_cons (lg_wsX7_whenMound_0 _ (List.mem_of_getElem? (i := 2) rfl)) (gi_cons (lg_wsX7_whenMound_0 _ (List.mem_of_getElem? (i := 3) rfl)) gi_nil)))) ggX7_whenMound_X7_putAside
set_option maxRecDepth 20000 in
theorem ggX7_whenMound_X7_beats : GoodIn wsX7_whenMound wsX7_beats := (gi_cons (lg_wsX7_whenMound_0 _ (List.mem_of_getElem? (i := 10) rfl)) (goodIn_app (goodIn_app (gi_cons (lg_wsX7_whenMound_0 _ (List.mem_of_getElem? (i := 6) rfl)) (gi_cons (lg_wsX7_whenMound_0 _ (List.mem_of_getElem? (i := 11) rfl)) (gi_cons (lg_wsX7_whenMound_0 _ (List.mem_of_getElem? (i := 12) rfl)) (gi_cons (lg_wsX7_whenMound_0 _ (List.mem_of_getElem? (i := 13) rfl)) (gi_cons (lg_wsX7_whenMound_0 _ (List.mem_of_getElem? (i := 3) rfl)) (gi_cons (lg_wsX7_whenMound_0 _ (List.mem_of_getElem? (i := 14) rfl)) (gi_cons (lg_wsX7_whenMound_0 _ (List.mem_of_getElem? (i := 15) rfl)) (gi_cons (lg_wsX7_whenMound_0 _ (List.mem_of_getElem? (i := 16) rfl)) (gi_cons (lg_wsX7_whenMound_0 _ (List.mem_of_getElem? (i := 17) rfl)) (gi_cons (lg_wsX7_whenMound_0 _ (List.mem_of_getElem? (i := 18) rfl)) (gi_cons (lg_wsX7_whenMound_0 _ (List.mem_of_getElem? (i := 19) rfl)) (gi_cons (lg_wsX7_whenMound_0 _ (List.mem_of_getElem? (i := 20) rfl)) (gi_cons (lg_wsX7_whenMound_0 _ (List.mem_of_getElem? (i := 21) rfl)) (gi_cons (lg_wsX7_whenMound_0 _ (List.mem_of_getElem? (i := 22) rfl)) (gi_cons (lg_wsX7_whenMound_0 _ (List.mem_of_getElem? (i := 23) rfl)) (gi_cons (lg_wsX7_whenMound_1 _ (List.mem_of_getElem? (i := 0) rfl)) (gi_cons (lg_wsX7_whenMound_1 _ (List.mem_of_getElem? (i := 1) rfl)) (gi_cons (lg_wsX7_whenMound_1 _ (List.mem_of_getElem? (i := 2) rfl)) (gi_cons (lg_wsX7_whenMound_1 _ (List.mem_of_getElem? (i := 3) rfl)) (gi_cons (lg_wsX7_whenMound_1 _ (List.mem_of_getElem? (i := 4) rfl)) (gi_cons (lg_wsX7_whenMound_1 _ (List.mem_of_getElem? (i := 5) rfl)) (gi_cons (lg_wsX7_whenMound_1 _ (List.mem_of_getElem? (i := 6) rfl)) (gi_cons (lg_wsX7_whenMound_1 _ (List.mem_of_getElem? (i := 7) rfl)) (gi_cons (lg_wsX7_whenMound_1 _ (List.mem_of_getElem? (i := 8) rfl)) gi_nil)))))))))))))))))))))))) (goodIn_app (gi_cons (lg_wsX7_whenMound_1 _ (List.mem_of_getElem? (i := 9) rfl)) (gi_cons (lg_wsX7_whenMound_1 _ (List.mem_of_getElem? (i := 10) rfl)) (gi_cons (lg_wsX7_whenMound_1 _ (List.mem_of_getElem? (i := 11) rfl)) (gi_cons (lg_wsX7_whenMound_1 _ (List.mem_of_getElem? (i := 12) rfl)) (gi_cons (lg_wsX7_whenMound_1 _ (List.mem_of_getElem? (i := 13) rfl)) (gi_cons (lg_wsX7_whenMound_1 _ (List.mem_of_getElem? (i := 14) rfl)) (gi_cons (lg_wsX7_whenMound_1 _ (List.mem_of_getElem? (i := 15) rfl)) (gi_cons (lg_wsX7_whenMound_1 _ (List.mem_of_getElem? (i := 16) rfl)) (gi_cons (lg_wsX7_whenMound_1 _ (List.mem_of_getElem? (i := 17) rfl)) (gi_cons (lg_wsX7_whenMound_1 _ (List.mem_of_getElem? (i := 18) rfl)) (gi_cons (lg_wsX7_whenMound_1 _ (List.mem_of_getElem? (i := 19) rfl)) (gi_cons (lg_wsX7_whenMound_1 _ (List.mem_of_getElem? (i := 20) rfl)) (gi_cons (lg_wsX7_whenMound_1 _ (List.mem_of_getElem? (i := 21) rfl)) (gi_cons (lg_wsX7_whenMound_1 _ (List.mem_of_getElem? (i := 22) rfl)) (gi_cons (lg_wsX7_whenMound_1 _ (List.mem_of_getElem? (i := 23) rfl)) (gi_cons (lg_wsX7_whenMound_2 _ (List.mem_of_getElem? (i := 0) rfl)) (gi_cons (lg_wsX7_whenMound_2 _ (List.mem_of_getElem? (i := 1) rfl)) (gi_cons (lg_wsX7_whenMound_2 _ (List.mem_of_getElem? (i := 2) rfl)) (gi_cons (lg_wsX7_whenMound_2 _ (List.mem_of_getElem? (i := 3) rfl)) (gi_cons (lg_wsX7_whenMound_2 _ (List.mem_of_getElem? (i := 4) rfl)) (gi_cons (lg_wsX7_whenMound_2 _ (List.mem_of_getElem? (i := 5) rfl)) (gi_cons (lg_wsX7_whenMound_2 _ (List.mem_of_getElem? (i := 6) rfl)) (gi_cons (lg_wsX7_whenMound_2 _ (List.mem_of_getElem? (i := 7) rfl)) (gi_cons (lg_wsX7_whenMound_2 _ (List.mem_of_getElem? (i := 8) rfl)) gi_nil)))))))))))))))))))))))) (goodIn_app (gi_cons (lg_wsX7_whenMound_2 _ (List.mem_of_getElem? (i := 9) rfl)) (gi_cons (lg_wsX7_whenMound_2 _ (List.mem_of_getElem? (i := 10) rfl)) (gi_cons (lg_wsX7_whenMound_2 _ (List.mem_of_getElem? (i := 11) rfl)) (gi_cons (lg_wsX7_whenMound_2 _ (List.mem_of_getElem? (i := 12) rfl)) (gi_cons (lg_wsX7_whenMound_2 _ (List.mem_of_getElem? (i := 13) rfl)) (gi_cons (lg_wsX7_whenMound_2 _ (List.mem_of_getElem? (i := 14) rfl)) (gi_cons (lg_wsX7_whenMound_2 _ (List.mem_of_getElem? (i := 15) rfl)) (gi_cons (lg_wsX7_whenMound_2 _ (List.mem_of_getElem? (i := 16) rfl)) (gi_cons (lg_wsX7_whenMound_2 _ (List.mem_of_getElem? (i := 17) rfl)) (gi_cons (lg_wsX7_whenMound_2 _ (List.mem_of_getElem? (i := 18) rfl)) (gi_cons (lg_wsX7_whenMound_2 _ (List.mem_of_getElem? (i := 19) rfl)) (gi_cons (lg_wsX7_whenMound_2 _ (List.mem_of_getElem? (i := 20) rfl)) (gi_cons (lg_wsX7_whenMound_2 _ (List.mem_of_getElem? (i := 21) rfl)) (gi_cons (lg_wsX7_whenMound_2 _ (List.mem_of_getElem? (i := 22) rfl)) (gi_cons (lg_wsX7_whenMound_2 _ (List.mem_of_getElem? (i := 23) rfl)) (gi_cons (lg_wsX7_whenMound_3 _ (List.mem_of_getElem? (i := 0) rfl)) (gi_cons (lg_wsX7_whenMound_3 _ (List.mem_of_getElem? (i := 1) rfl)) (gi_cons (lg_wsX7_whenMound_3 _ (List.mem_of_getElem? (i := 2) rfl)) (gi_cons (lg_wsX7_whenMound_3 _ (List.mem_of_getElem? (i := 3) rfl)) (gi_cons (lg_wsX7_whenMound_3 _ (List.mem_of_getElem? (i := 4) rfl)) (gi_cons (lg_wsX7_whenMound_3 _ (List.mem_of_getElem? (i := 5) rfl)) (gi_cons (lg_wsX7_whenMound_3 _ (List.mem_of_getElem? (i := 6) rfl)) (gi_cons (lg_wsX7_whenMound_3 _ (List.mem_of_getElem? (i := 7) rfl)) (gi_cons (lg_wsX7_whenMound_3 _ (List.mem_of_getElem? (i := 8) rfl)) gi_nil)))))))))))))))))))))))) (gi_cons (lg_wsX7_whenMound_3 _ (List.mem_of_getElem? (i := 9) rfl)) (gi_cons (lg_wsX7_whenMound_3 _ (List.mem_of_getElem? (i := 10) rfl)) (gi_cons (lg_wsX7_whenMound_3 _ (List.mem_of_getElem? (i := 11) rfl)) (gi_cons (lg_wsX7_whenMound_3 _ (List.mem_of_getElem? (i := 12) rfl)) (gi_cons (lg_wsX7_whenMound_3 _ (List.mem_of_getElem? (i := 13) rfl)) (gi_cons (lg_wsX7_whenMound_3 _ (List.mem_of_getElem? (i := 14) rfl)) (gi_cons (lg_wsX7_whenMound_3 _ (List.mem_of_getElem? (i := 15) rfl)) (gi_cons (lg_wsX7_whenMound_3 _ (List.mem_of_getElem? (i := 16) rfl)) (gi_cons (lg_wsX7_whenMound_3 _ (List.mem_of_getElem? (i := 17) rfl)) (gi_cons (lg_wsX7_whenMound_3 _ (List.mem_of_getElem? (i := 18) rfl)) gi_nil))))))))))))) ls_wsX7_whenMound_0))
set_option maxRecDepth 20000 in
theorem gX7_whenMound_X7_beats : GoodIn wsX7_whenMound (wsV RX7 132 RX7 yX7_beats wsX7_beats) := goodIn_app (gi_cons (lg_wsX7_whenMound_0 _ (List.mem_of_getElem? (i := 7) rfl)) (gi_cons (lg_wsX7_whenMound_0 _ (List.mem_of_getElem? (i := 8) rfl)) (gi_cons (lg_wsX7_whenMound_0 _ (List.mem_of_getElem? (i := 9) rfl)) (gi_cons (lg_wsX7_whenMound_0 _ (List.mem_of_getElem? (i := 3) rfl)) gi_nil)))) ggX7_whenMound_X7_beats
set_option maxRecDepth 20000 in
theorem ggX7_whenMound_X7_putBack : GoodIn wsX7_whenMound wsX7_putBack := (gi_cons (lg_wsX7_whenMound_3 _ (List.mem_of_getElem? (i := 22) rfl)) (goodIn_app (gi_cons (lg_wsX7_whenMound_0 _ (List.mem_of_getElem? (i := 6) rfl)) (gi_cons (lg_wsX7_whenMound_0 _ (List.mem_of_getElem? (i := 5) rfl)) gi_nil)) ls_wsX7_whenMound_0))
set_option maxRecDepth 20000 in
theorem gX7_whenMound_X7_putBack : GoodIn wsX7_whenMound (wsV RX7 260 RX7 yX7_putBack wsX7_putBack) := goodIn_app (gi_cons (lg_wsX7_whenMound_3 _ (List.mem_of_getElem? (i := 19) rfl)) (gi_cons (lg_wsX7_whenMound_3 _ (List.mem_of_getElem? (i := 20) rfl)) (gi_cons (lg_wsX7_whenMound_3 _ (List.mem_of_getElem? (i := 21) rfl)) (gi_cons (lg_wsX7_whenMound_0 _ (List.mem_of_getElem? (i := 3) rfl)) gi_nil)))) ggX7_whenMound_X7_putBack
theorem dX7_whenMound_0 : decode cX7_whenMound 0 = .ok (.aload_n 0, 1) := by decide +kernel
theorem dX7_whenMound_1 : decode cX7_whenMound 1 = .ok (.invokevirtual 257, 3) := by decide +kernel
theorem dX7_whenMound_4 : decode cX7_whenMound 4 = .ok (.iconst 0, 1) := by decide +kernel
theorem dX7_whenMound_5 : decode cX7_whenMound 5 = .ok (.istore_n 1, 1) := by decide +kernel
theorem dX7_whenMound_6 : decode cX7_whenMound 6 = .ok (.iconst 0, 1) := by decide +kernel
theorem dX7_whenMound_7 : decode cX7_whenMound 7 = .ok (.istore_n 2, 1) := by decide +kernel
theorem dX7_whenMound_8 : decode cX7_whenMound 8 = .ok (.iload_n 1, 1) := by decide +kernel
theorem dX7_whenMound_9 : decode cX7_whenMound 9 = .ok (.bipush 100, 2) := by decide +kernel
theorem dX7_whenMound_11 : decode cX7_whenMound 11 = .ok (.if_icmp .ge 19, 3) := by decide +kernel
theorem dX7_whenMound_14 : decode cX7_whenMound 14 = .ok (.iload_n 2, 1) := by decide +kernel
theorem dX7_whenMound_15 : decode cX7_whenMound 15 = .ok (.ifCond .ne 15, 3) := by decide +kernel
theorem dX7_whenMound_18 : decode cX7_whenMound 18 = .ok (.aload_n 0, 1) := by decide +kernel
theorem dX7_whenMound_19 : decode cX7_whenMound 19 = .ok (.iconst 1, 1) := by decide +kernel
theorem dX7_whenMound_20 : decode cX7_whenMound 20 = .ok (.invokevirtual 132, 3) := by decide +kernel
theorem dX7_whenMound_23 : decode cX7_whenMound 23 = .ok (.istore_n 2, 1) := by decide +kernel
theorem dX7_whenMound_24 : decode cX7_whenMound 24 = .ok (.iinc 1 1, 3) := by decide +kernel
theorem dX7_whenMound_27 : decode cX7_whenMound 27 = .ok (.goto (-19), 3) := by decide +kernel
theorem dX7_whenMound_30 : decode cX7_whenMound 30 = .ok (.aload_n 0, 1) := by decide +kernel
theorem dX7_whenMound_31 : decode cX7_whenMound 31 = .ok (.invokevirtual 260, 3) := by decide +kernel
theorem dX7_whenMound_34 : decode cX7_whenMound 34 = .ok (.iload_n 2, 1) := by decide +kernel
theorem dX7_whenMound_35 : decode cX7_whenMound 35 = .ok (.ifCond .le 7, 3) := by decide +kernel
theorem dX7_whenMound_38 : decode cX7_whenMound 38 = .ok (.iload_n 1, 1) := by decide +kernel
theorem dX7_whenMound_39 : decode cX7_whenMound 39 = .ok (.goto 4, 3) := by decide +kernel
theorem dX7_whenMound_42 : decode cX7_whenMound 42 = .ok (.iconst (-1), 1) := by decide +kernel
theorem dX7_whenMound_43 : decode cX7_whenMound 43 = .ok (.ireturn, 1) := by decide +kernel
theorem lg_wsX7_nextMound_0 : GoodIn wsX7_nextMound wsX7_nextMound_r1 := goodIn_sub (fun _ h => (List.mem_cons_of_mem _ (List.mem_append_left _ (List.mem_append_left _ h)))) (by decide +kernel)
theorem lg_wsX7_nextMound_1 : GoodIn wsX7_nextMound wsX7_nextMound_r2 := goodIn_sub (fun _ h => (List.mem_cons_of_mem _ (List.mem_append_left _ (List.mem_append_right _ (List.mem_append_left _ h))))) (by decide +kernel)
theorem lg_wsX7_nextMound_2 : GoodIn wsX7_nextMound wsX7_nextMound_r3 := goodIn_sub (fun _ h => (List.mem_cons_of_mem _ (List.mem_append_left _ (List.mem_append_right _ (List.mem_append_right _ (List.mem_append_left _ h)))))) (by decide +kernel)
theorem lg_wsX7_nextMound_3 : GoodIn wsX7_nextMound wsX7_nextMound_r4 := goodIn_sub (fun _ h => (List.mem_cons_of_mem _ (List.mem_append_left _ (List.mem_append_right _ (List.mem_append_right _ (List.mem_append_right _ (List.mem_append_left _ h))))))) (by decide +kernel)
theorem lg_wsX7_nextMound_4 : GoodIn wsX7_nextMound wsX7_nextMound_r5 := goodIn_sub (fun _ h => (List.mem_cons_of_mem _ (List.mem_append_left _ (List.mem_append_right _ (List.mem_append_right _ (List.mem_append_right _ (List.mem_append_right _ h))))))) (by decide +kernel)
theorem ls_wsX7_nextMound_0 : GoodIn wsX7_nextMound wsX70 := goodIn_sub (fun _ h => (List.mem_cons_of_mem _ (List.mem_append_right _ h))) (by decide +kernel)
set_option maxRecDepth 20000 in
theorem ggX7_nextMound_X7_whenMound : GoodIn wsX7_nextMound wsX7_whenMound := (gi_cons (lg_wsX7_nextMound_0 _ (List.mem_of_getElem? (i := 5) rfl)) (goodIn_app (goodIn_app (gi_cons (lg_wsX7_nextMound_0 _ (List.mem_of_getElem? (i := 6) rfl)) (gi_cons (lg_wsX7_nextMound_0 _ (List.mem_of_getElem? (i := 7) rfl)) (gi_cons (lg_wsX7_nextMound_0 _ (List.mem_of_getElem? (i := 8) rfl)) (gi_cons (lg_wsX7_nextMound_0 _ (List.mem_of_getElem? (i := 4) rfl)) (gi_cons (lg_wsX7_nextMound_0 _ (List.mem_of_getElem? (i := 9) rfl)) (gi_cons (lg_wsX7_nextMound_0 _ (List.mem_of_getElem? (i := 10) rfl)) (gi_cons (lg_wsX7_nextMound_0 _ (List.mem_of_getElem? (i := 11) rfl)) (gi_cons (lg_wsX7_nextMound_0 _ (List.mem_of_getElem? (i := 12) rfl)) (gi_cons (lg_wsX7_nextMound_0 _ (List.mem_of_getElem? (i := 13) rfl)) (gi_cons (lg_wsX7_nextMound_0 _ (List.mem_of_getElem? (i := 14) rfl)) (gi_cons (lg_wsX7_nextMound_0 _ (List.mem_of_getElem? (i := 15) rfl)) (gi_cons (lg_wsX7_nextMound_0 _ (List.mem_of_getElem? (i := 16) rfl)) (gi_cons (lg_wsX7_nextMound_0 _ (List.mem_of_getElem? (i := 17) rfl)) (gi_cons (lg_wsX7_nextMound_0 _ (List.mem_of_getElem? (i := 18) rfl)) (gi_cons (lg_wsX7_nextMound_0 _ (List.mem_of_getElem? (i := 19) rfl)) (gi_cons (lg_wsX7_nextMound_0 _ (List.mem_of_getElem? (i := 20) rfl)) (gi_cons (lg_wsX7_nextMound_0 _ (List.mem_of_getElem? (i := 21) rfl)) (gi_cons (lg_wsX7_nextMound_0 _ (List.mem_of_getElem? (i := 22) rfl)) (gi_cons (lg_wsX7_nextMound_0 _ (List.mem_of_getElem? (i := 23) rfl)) (gi_cons (lg_wsX7_nextMound_1 _ (List.mem_of_getElem? (i := 0) rfl)) (gi_cons (lg_wsX7_nextMound_1 _ (List.mem_of_getElem? (i := 1) rfl)) (gi_cons (lg_wsX7_nextMound_1 _ (List.mem_of_getElem? (i := 2) rfl)) (gi_cons (lg_wsX7_nextMound_1 _ (List.mem_of_getElem? (i := 3) rfl)) (gi_cons (lg_wsX7_nextMound_1 _ (List.mem_of_getElem? (i := 4) rfl)) gi_nil)))))))))))))))))))))))) (goodIn_app (gi_cons (lg_wsX7_nextMound_1 _ (List.mem_of_getElem? (i := 5) rfl)) (gi_cons (lg_wsX7_nextMound_1 _ (List.mem_of_getElem? (i := 6) rfl)) (gi_cons (lg_wsX7_nextMound_1 _ (List.mem_of_getElem? (i := 7) rfl)) (gi_cons (lg_wsX7_nextMound_1 _ (List.mem_of_getElem? (i := 8) rfl)) (gi_cons (lg_wsX7_nextMound_1 _ (List.mem_of_getElem? (i := 9) rfl)) (gi_cons (lg_wsX7_nextMound_1 _ (List.mem_of_getElem? (i := 10) rfl)) (gi_cons (lg_wsX7_nextMound_1 _ (List.mem_of_getElem? (i := 11) rfl)) (gi_cons (lg_wsX7_nextMound_1 _ (List.mem_of_getElem? (i := 12) rfl)) (gi_cons (lg_wsX7_nextMound_1 _ (List.mem_of_getElem? (i := 13) rfl)) (gi_cons (lg_wsX7_nextMound_1 _ (List.mem_of_getElem? (i := 14) rfl)) (gi_cons (lg_wsX7_nextMound_1 _ (List.mem_of_getElem? (i := 15) rfl)) (gi_cons (lg_wsX7_nextMound_1 _ (List.mem_of_getElem? (i := 16) rfl)) (gi_cons (lg_wsX7_nextMound_1 _ (List.mem_of_getElem? (i := 17) rfl)) (gi_cons (lg_wsX7_nextMound_1 _ (List.mem_of_getElem? (i := 18) rfl)) (gi_cons (lg_wsX7_nextMound_1 _ (List.mem_of_getElem? (i := 19) rfl)) (gi_cons (lg_wsX7_nextMound_1 _ (List.mem_of_getElem? (i := 20) rfl)) (gi_cons (lg_wsX7_nextMound_1 _ (List.mem_of_getElem? (i := 21) rfl)) (gi_cons (lg_wsX7_nextMound_1 _ (List.mem_of_getElem? (i := 22) rfl)) (gi_cons (lg_wsX7_nextMound_1 _ (List.mem_of_getElem? (i := 23) rfl)) (gi_cons (lg_wsX7_nextMound_2 _ (List.mem_of_getElem? (i := 0) rfl)) (gi_cons (lg_wsX7_nextMound_2 _ (List.mem_of_getElem? (i := 1) rfl)) (gi_cons (lg_wsX7_nextMound_2 _ (List.mem_of_getElem? (i := 2) rfl)) (gi_cons (lg_wsX7_nextMound_2 _ (List.mem_of_getElem? (i := 3) rfl)) (gi_cons (lg_wsX7_nextMound_2 _ (List.mem_of_getElem? (i := 4) rfl)) gi_nil)))))))))))))))))))))))) (goodIn_app (gi_cons (lg_wsX7_nextMound_2 _ (List.mem_of_getElem? (i := 5) rfl)) (gi_cons (lg_wsX7_nextMound_2 _ (List.mem_of_getElem? (i := 6) rfl)) (gi_cons (lg_wsX7_nextMound_2 _ (List.mem_of_getElem? (i := 7) rfl)) (gi_cons (lg_wsX7_nextMound_2 _ (List.mem_of_getElem? (i := 8) rfl)) (gi_cons (lg_wsX7_nextMound_2 _ (List.mem_of_getElem? (i := 9) rfl)) (gi_cons (lg_wsX7_nextMound_2 _ (List.mem_of_getElem? (i := 10) rfl)) (gi_cons (lg_wsX7_nextMound_2 _ (List.mem_of_getElem? (i := 11) rfl)) (gi_cons (lg_wsX7_nextMound_2 _ (List.mem_of_getElem? (i := 12) rfl)) (gi_cons (lg_wsX7_nextMound_2 _ (List.mem_of_getElem? (i := 13) rfl)) (gi_cons (lg_wsX7_nextMound_2 _ (List.mem_of_getElem? (i := 14) rfl)) (gi_cons (lg_wsX7_nextMound_2 _ (List.mem_of_getElem? (i := 15) rfl)) (gi_cons (lg_wsX7_nextMound_2 _ (List.mem_of_getElem? (i := 16) rfl)) (gi_cons (lg_wsX7_nextMound_2 _ (List.mem_of_getElem? (i := 17) rfl)) (gi_cons (lg_wsX7_nextMound_2 _ (List.mem_of_getElem? (i := 18) rfl)) (gi_cons (lg_wsX7_nextMound_2 _ (List.mem_of_getElem? (i := 19) rfl)) (gi_cons (lg_wsX7_nextMound_2 _ (List.mem_of_getElem? (i := 20) rfl)) (gi_cons (lg_wsX7_nextMound_2 _ (List.mem_of_getElem? (i := 21) rfl)) (gi_cons (lg_wsX7_nextMound_2 _ (List.mem_of_getElem? (i := 22) rfl)) (gi_cons (lg_wsX7_nextMound_2 _ (List.mem_of_getElem? (i := 23) rfl)) (gi_cons (lg_wsX7_nextMound_3 _ (List.mem_of_getElem? (i := 0) rfl)) (gi_cons (lg_wsX7_nextMound_3 _ (List.mem_of_getElem? (i := 1) rfl)) (gi_cons (lg_wsX7_nextMound_3 _ (List.mem_of_getElem? (i := 2) rfl)) (gi_cons (lg_wsX7_nextMound_3 _ (List.mem_of_getElem? (i := 3) rfl)) (gi_cons (lg_wsX7_nextMound_3 _ (List.mem_of_getElem? (i := 4) rfl)) gi_nil)))))))))))))))))))))))) (gi_cons (lg_wsX7_nextMound_3 _ (List.mem_of_getElem? (i := 5) rfl)) (gi_cons (lg_wsX7_nextMound_3 _ (List.mem_of_getElem? (i := 6) rfl)) (gi_cons (lg_wsX7_nextMound_3 _ (List.mem_of_getElem? (i := 7) rfl)) (gi_cons (lg_wsX7_nextMound_3 _ (List.mem_of_getElem? (i := 8) rfl)) (gi_cons (lg_wsX7_nextMound_3 _ (List.mem_of_getElem? (i := 9) rfl)) (gi_cons (lg_wsX7_nextMound_3 _ (List.mem_of_getElem? (i := 10) rfl)) (gi_cons (lg_wsX7_nextMound_3 _ (List.mem_of_getElem? (i := 11) rfl)) (gi_cons (lg_wsX7_nextMound_3 _ (List.mem_of_getElem? (i := 12) rfl)) (gi_cons (lg_wsX7_nextMound_3 _ (List.mem_of_getElem? (i := 13) rfl)) (gi_cons (lg_wsX7_nextMound_3 _ (List.mem_of_getElem? (i := 14) rfl)) (gi_cons (lg_wsX7_nextMound_3 _ (List.mem_of_getElem? (i := 15) rfl)) (gi_cons (lg_wsX7_nextMound_3 _ (List.mem_of_getElem? (i := 16) rfl)) (gi_cons (lg_wsX7_nextMound_3 _ (List.mem_of_getElem? (i := 17) rfl)) (gi_cons (lg_wsX7_nextMound_3 _ (List.mem_of_getElem? (i := 18) rfl)) (gi_cons (lg_wsX7_nextMound_3 _ (List.mem_of_getElem? (i := 19) rfl)) (gi_cons (lg_wsX7_nextMound_3 _ (List.mem_of_getElem? (i := 20) rfl)) (gi_cons (lg_wsX7_nextMound_3 _ (List.mem_of_getElem? (i := 21) rfl)) (gi_cons (lg_wsX7_nextMound_3 _ (List.mem_of_getElem? (i := 22) rfl)) (gi_cons (lg_wsX7_nextMound_3 _ (List.mem_of_getElem? (i := 23) rfl)) (gi_cons (lg_wsX7_nextMound_4 _ (List.mem_of_getElem? (i := 0) rfl)) (gi_cons (lg_wsX7_nextMound_4 _ (List.mem_of_getElem? (i := 1) rfl)) (gi_cons (lg_wsX7_nextMound_4 _ (List.mem_of_getElem? (i := 2) rfl)) (gi_cons (lg_wsX7_nextMound_4 _ (List.mem_of_getElem? (i := 3) rfl)) gi_nil)))))))))))))))))))))))))) ls_wsX7_nextMound_0))
set_option maxRecDepth 20000 in
theorem gX7_nextMound_X7_whenMound : GoodIn wsX7_nextMound (wsV RX7 272 RX7 yX7_whenMound wsX7_whenMound) := goodIn_app (gi_cons (lg_wsX7_nextMound_0 _ (List.mem_of_getElem? (i := 1) rfl)) (gi_cons (lg_wsX7_nextMound_0 _ (List.mem_of_getElem? (i := 2) rfl)) (gi_cons (lg_wsX7_nextMound_0 _ (List.mem_of_getElem? (i := 3) rfl)) (gi_cons (lg_wsX7_nextMound_0 _ (List.mem_of_getElem? (i := 4) rfl)) gi_nil)))) ggX7_nextMound_X7_whenMound
theorem dX7_nextMound_0 : decode cX7_nextMound 0 = .ok (.aload_n 0, 1) := by decide +kernel
theorem dX7_nextMound_1 : decode cX7_nextMound 1 = .ok (.iconst 0, 1) := by decide +kernel
theorem dX7_nextMound_2 : decode cX7_nextMound 2 = .ok (.putfield 38, 3) := by decide +kernel
theorem dX7_nextMound_5 : decode cX7_nextMound 5 = .ok (.aload_n 0, 1) := by decide +kernel
theorem dX7_nextMound_6 : decode cX7_nextMound 6 = .ok (.invokevirtual 272, 3) := by decide +kernel
theorem dX7_nextMound_9 : decode cX7_nextMound 9 = .ok (.ireturn, 1) := by decide +kernel
theorem lg_wsX7_share_0 : GoodIn wsX7_share ([.constantDouble RX7 275 (4634204016564240384), .methodLink RX7 245 yX7_hollow, .instanceMethod yX7_hollow, .selects RX7 yX7_hollow yX7_hollow, .initialized RX7, .code yX7_hollow cX7_hollow 3 (some .int), .fieldLink RX7 28 "MolesLawnModel" "isHollow" "[Z", .methodLink RX7 197 yX7_layHollow, .instanceMethod yX7_layHollow, .selects RX7 yX7_layHollow yX7_layHollow, .code yX7_layHollow cX7_layHollow 3 none, .fieldLink RX7 7 "MolesLawnModel" "s" "[I", .methodLink RX7 53 yX7_tuftAt, .instanceMethod yX7_tuftAt, .selects RX7 yX7_tuftAt yX7_tuftAt, .code yX7_tuftAt cX7_tuftAt 2 (some .int), .methodLink RX7 64 yX7_of, .static yX7_of, .code yX7_of cX7_of 2 (some .int)] : List Cond) := goodIn_sub (fun _ h => (List.mem_cons_of_mem _ (List.mem_append_left _ h))) (by decide +kernel)
theorem ls_wsX7_share_0 : GoodIn wsX7_share wsX70 := goodIn_sub (fun _ h => (List.mem_cons_of_mem _ (List.mem_append_right _ h))) (by decide +kernel)
set_option maxRecDepth 20000 in
theorem ggX7_share_X7_hollow : GoodIn wsX7_share wsX7_hollow := (gi_cons (lg_wsX7_share_0 _ (List.mem_of_getElem? (i := 5) rfl)) (goodIn_app (gi_cons (lg_wsX7_share_0 _ (List.mem_of_getElem? (i := 6) rfl)) (gi_cons (lg_wsX7_share_0 _ (List.mem_of_getElem? (i := 7) rfl)) (gi_cons (lg_wsX7_share_0 _ (List.mem_of_getElem? (i := 8) rfl)) (gi_cons (lg_wsX7_share_0 _ (List.mem_of_getElem? (i := 9) rfl)) (gi_cons (lg_wsX7_share_0 _ (List.mem_of_getElem? (i := 4) rfl)) (gi_cons (lg_wsX7_share_0 _ (List.mem_of_getElem? (i := 10) rfl)) (gi_cons (lg_wsX7_share_0 _ (List.mem_of_getElem? (i := 11) rfl)) (gi_cons (lg_wsX7_share_0 _ (List.mem_of_getElem? (i := 12) rfl)) (gi_cons (lg_wsX7_share_0 _ (List.mem_of_getElem? (i := 13) rfl)) (gi_cons (lg_wsX7_share_0 _ (List.mem_of_getElem? (i := 14) rfl)) (gi_cons (lg_wsX7_share_0 _ (List.mem_of_getElem? (i := 15) rfl)) (gi_cons (lg_wsX7_share_0 _ (List.mem_of_getElem? (i := 16) rfl)) (gi_cons (lg_wsX7_share_0 _ (List.mem_of_getElem? (i := 17) rfl)) (gi_cons (lg_wsX7_share_0 _ (List.mem_of_getElem? (i := 18) rfl)) gi_nil)))))))))))))) ls_wsX7_share_0))
set_option maxRecDepth 20000 in
theorem gX7_share_X7_hollow : GoodIn wsX7_share (wsV RX7 245 RX7 yX7_hollow wsX7_hollow) := goodIn_app (gi_cons (lg_wsX7_share_0 _ (List.mem_of_getElem? (i := 1) rfl)) (gi_cons (lg_wsX7_share_0 _ (List.mem_of_getElem? (i := 2) rfl)) (gi_cons (lg_wsX7_share_0 _ (List.mem_of_getElem? (i := 3) rfl)) (gi_cons (lg_wsX7_share_0 _ (List.mem_of_getElem? (i := 4) rfl)) gi_nil)))) ggX7_share_X7_hollow
theorem dX7_share_0 : decode cX7_share 0 = .ok (.aload_n 0, 1) := by decide +kernel
theorem dX7_share_1 : decode cX7_share 1 = .ok (.invokevirtual 245, 3) := by decide +kernel
theorem dX7_share_4 : decode cX7_share 4 = .ok (.i2d, 1) := by decide +kernel
theorem dX7_share_5 : decode cX7_share 5 = .ok (.ldc2_w 275, 3) := by decide +kernel
theorem dX7_share_8 : decode cX7_share 8 = .ok (.ddiv, 1) := by decide +kernel
theorem dX7_share_9 : decode cX7_share 9 = .ok (.dreturn, 1) := by decide +kernel
theorem lg_wsX7_hollowShare_0 : GoodIn wsX7_hollowShare ([.fieldLink RX7 38 "MolesLawnModel" "thrown" "I", .methodLink RX7 277 yX7_share, .instanceMethod yX7_share, .selects RX7 yX7_share yX7_share, .initialized RX7, .code yX7_share cX7_share 1 (some .double), .constantDouble RX7 275 (4634204016564240384), .methodLink RX7 245 yX7_hollow, .instanceMethod yX7_hollow, .selects RX7 yX7_hollow yX7_hollow, .code yX7_hollow cX7_hollow 3 (some .int), .fieldLink RX7 28 "MolesLawnModel" "isHollow" "[Z", .methodLink RX7 197 yX7_layHollow, .instanceMethod yX7_layHollow, .selects RX7 yX7_layHollow yX7_layHollow, .code yX7_layHollow cX7_layHollow 3 none, .fieldLink RX7 7 "MolesLawnModel" "s" "[I", .methodLink RX7 53 yX7_tuftAt, .instanceMethod yX7_tuftAt, .selects RX7 yX7_tuftAt yX7_tuftAt, .code yX7_tuftAt cX7_tuftAt 2 (some .int), .methodLink RX7 64 yX7_of, .static yX7_of, .code yX7_of cX7_of 2 (some .int)] : List Cond) := goodIn_sub (fun _ h => (List.mem_cons_of_mem _ (List.mem_append_left _ h))) (by decide +kernel)
theorem ls_wsX7_hollowShare_0 : GoodIn wsX7_hollowShare wsX70 := goodIn_sub (fun _ h => (List.mem_cons_of_mem _ (List.mem_append_right _ h))) (by decide +kernel)
set_option maxRecDepth 20000 in
theorem ggX7_hollowShare_X7_share : GoodIn wsX7_hollowShare wsX7_share := (gi_cons (lg_wsX7_hollowShare_0 _ (List.mem_of_getElem? (i := 5) rfl)) (goodIn_app (gi_cons (lg_wsX7_hollowShare_0 _ (List.mem_of_getElem? (i := 6) rfl)) (gi_cons (lg_wsX7_hollowShare_0 _ (List.mem_of_getElem? (i := 7) rfl)) (gi_cons (lg_wsX7_hollowShare_0 _ (List.mem_of_getElem? (i := 8) rfl)) (gi_cons (lg_wsX7_hollowShare_0 _ (List.mem_of_getElem? (i := 9) rfl)) (gi_cons (lg_wsX7_hollowShare_0 _ (List.mem_of_getElem? (i := 4) rfl)) (gi_cons (lg_wsX7_hollowShare_0 _ (List.mem_of_getElem? (i := 10) rfl)) (gi_cons (lg_wsX7_hollowShare_0 _ (List.mem_of_getElem? (i := 11) rfl)) (gi_cons (lg_wsX7_hollowShare_0 _ (List.mem_of_getElem? (i := 12) rfl)) (gi_cons (lg_wsX7_hollowShare_0 _ (List.mem_of_getElem? (i := 13) rfl)) (gi_cons (lg_wsX7_hollowShare_0 _ (List.mem_of_getElem? (i := 14) rfl)) (gi_cons (lg_wsX7_hollowShare_0 _ (List.mem_of_getElem? (i := 15) rfl)) (gi_cons (lg_wsX7_hollowShare_0 _ (List.mem_of_getElem? (i := 16) rfl)) (gi_cons (lg_wsX7_hollowShare_0 _ (List.mem_of_getElem? (i := 17) rfl)) (gi_cons (lg_wsX7_hollowShare_0 _ (List.mem_of_getElem? (i := 18) rfl)) (gi_cons (lg_wsX7_hollowShare_0 _ (List.mem_of_getElem? (i := 19) rfl)) (gi_cons (lg_wsX7_hollowShare_0 _ (List.mem_of_getElem? (i := 20) rfl)) (gi_cons (lg_wsX7_hollowShare_0 _ (List.mem_of_getElem? (i := 21) rfl)) (gi_cons (lg_wsX7_hollowShare_0 _ (List.mem_of_getElem? (i := 22) rfl)) (gi_cons (lg_wsX7_hollowShare_0 _ (List.mem_of_getElem? (i := 23) rfl)) gi_nil))))))))))))))))))) ls_wsX7_hollowShare_0))
set_option maxRecDepth 20000 in
theorem gX7_hollowShare_X7_share : GoodIn wsX7_hollowShare (wsV RX7 277 RX7 yX7_share wsX7_share) := goodIn_app (gi_cons (lg_wsX7_hollowShare_0 _ (List.mem_of_getElem? (i := 1) rfl)) (gi_cons (lg_wsX7_hollowShare_0 _ (List.mem_of_getElem? (i := 2) rfl)) (gi_cons (lg_wsX7_hollowShare_0 _ (List.mem_of_getElem? (i := 3) rfl)) (gi_cons (lg_wsX7_hollowShare_0 _ (List.mem_of_getElem? (i := 4) rfl)) gi_nil)))) ggX7_hollowShare_X7_share
theorem dX7_hollowShare_0 : decode cX7_hollowShare 0 = .ok (.aload_n 0, 1) := by decide +kernel
theorem dX7_hollowShare_1 : decode cX7_hollowShare 1 = .ok (.iconst 0, 1) := by decide +kernel
theorem dX7_hollowShare_2 : decode cX7_hollowShare 2 = .ok (.putfield 38, 3) := by decide +kernel
theorem dX7_hollowShare_5 : decode cX7_hollowShare 5 = .ok (.aload_n 0, 1) := by decide +kernel
theorem dX7_hollowShare_6 : decode cX7_hollowShare 6 = .ok (.invokevirtual 277, 3) := by decide +kernel
theorem dX7_hollowShare_9 : decode cX7_hollowShare 9 = .ok (.dreturn, 1) := by decide +kernel
theorem dX7_bitsOf_0 : decode cX7_bitsOf 0 = .ok (.dload_n 0, 1) := by decide +kernel
theorem dX7_bitsOf_1 : decode cX7_bitsOf 1 = .ok (.dconst 0, 1) := by decide +kernel
theorem dX7_bitsOf_2 : decode cX7_bitsOf 2 = .ok (.dcmp .l, 1) := by decide +kernel
theorem dX7_bitsOf_3 : decode cX7_bitsOf 3 = .ok (.ifCond .ne 5, 3) := by decide +kernel
theorem dX7_bitsOf_6 : decode cX7_bitsOf 6 = .ok (.lconst 0, 1) := by decide +kernel
theorem dX7_bitsOf_7 : decode cX7_bitsOf 7 = .ok (.lreturn, 1) := by decide +kernel
theorem dX7_bitsOf_8 : decode cX7_bitsOf 8 = .ok (.ldc2_w 281, 3) := by decide +kernel
theorem dX7_bitsOf_11 : decode cX7_bitsOf 11 = .ok (.lstore_n 2, 1) := by decide +kernel
theorem dX7_bitsOf_12 : decode cX7_bitsOf 12 = .ok (.dload_n 0, 1) := by decide +kernel
theorem dX7_bitsOf_13 : decode cX7_bitsOf 13 = .ok (.dstore 4, 2) := by decide +kernel
theorem dX7_bitsOf_15 : decode cX7_bitsOf 15 = .ok (.dload 4, 2) := by decide +kernel
theorem dX7_bitsOf_17 : decode cX7_bitsOf 17 = .ok (.dconst 1, 1) := by decide +kernel
theorem dX7_bitsOf_18 : decode cX7_bitsOf 18 = .ok (.dcmp .g, 1) := by decide +kernel
theorem dX7_bitsOf_19 : decode cX7_bitsOf 19 = .ok (.ifCond .ge 18, 3) := by decide +kernel
theorem dX7_bitsOf_22 : decode cX7_bitsOf 22 = .ok (.dload 4, 2) := by decide +kernel
theorem dX7_bitsOf_24 : decode cX7_bitsOf 24 = .ok (.ldc2_w 283, 3) := by decide +kernel
theorem dX7_bitsOf_27 : decode cX7_bitsOf 27 = .ok (.dmul, 1) := by decide +kernel
theorem dX7_bitsOf_28 : decode cX7_bitsOf 28 = .ok (.dstore 4, 2) := by decide +kernel
theorem dX7_bitsOf_30 : decode cX7_bitsOf 30 = .ok (.lload_n 2, 1) := by decide +kernel
theorem dX7_bitsOf_31 : decode cX7_bitsOf 31 = .ok (.lconst 1, 1) := by decide +kernel
theorem dX7_bitsOf_32 : decode cX7_bitsOf 32 = .ok (.lsub, 1) := by decide +kernel
theorem dX7_bitsOf_33 : decode cX7_bitsOf 33 = .ok (.lstore_n 2, 1) := by decide +kernel
theorem dX7_bitsOf_34 : decode cX7_bitsOf 34 = .ok (.goto (-19), 3) := by decide +kernel
theorem dX7_bitsOf_37 : decode cX7_bitsOf 37 = .ok (.lload_n 2, 1) := by decide +kernel
theorem dX7_bitsOf_38 : decode cX7_bitsOf 38 = .ok (.ldc2_w 285, 3) := by decide +kernel
theorem dX7_bitsOf_41 : decode cX7_bitsOf 41 = .ok (.lmul, 1) := by decide +kernel
theorem dX7_bitsOf_42 : decode cX7_bitsOf 42 = .ok (.dload 4, 2) := by decide +kernel
theorem dX7_bitsOf_44 : decode cX7_bitsOf 44 = .ok (.dconst 1, 1) := by decide +kernel
theorem dX7_bitsOf_45 : decode cX7_bitsOf 45 = .ok (.dsub, 1) := by decide +kernel
theorem dX7_bitsOf_46 : decode cX7_bitsOf 46 = .ok (.ldc2_w 287, 3) := by decide +kernel
theorem dX7_bitsOf_49 : decode cX7_bitsOf 49 = .ok (.dmul, 1) := by decide +kernel
theorem dX7_bitsOf_50 : decode cX7_bitsOf 50 = .ok (.d2l, 1) := by decide +kernel
theorem dX7_bitsOf_51 : decode cX7_bitsOf 51 = .ok (.ladd, 1) := by decide +kernel
theorem dX7_bitsOf_52 : decode cX7_bitsOf 52 = .ok (.lreturn, 1) := by decide +kernel
theorem dX7_digestOne_0 : decode cX7_digestOne 0 = .ok (.aload_n 0, 1) := by decide +kernel
theorem dX7_digestOne_1 : decode cX7_digestOne 1 = .ok (.ldc2_w 289, 3) := by decide +kernel
theorem dX7_digestOne_4 : decode cX7_digestOne 4 = .ok (.aload_n 0, 1) := by decide +kernel
theorem dX7_digestOne_5 : decode cX7_digestOne 5 = .ok (.getfield 291, 3) := by decide +kernel
theorem dX7_digestOne_8 : decode cX7_digestOne 8 = .ok (.lmul, 1) := by decide +kernel
theorem dX7_digestOne_9 : decode cX7_digestOne 9 = .ok (.lload_n 1, 1) := by decide +kernel
theorem dX7_digestOne_10 : decode cX7_digestOne 10 = .ok (.ladd, 1) := by decide +kernel
theorem dX7_digestOne_11 : decode cX7_digestOne 11 = .ok (.putfield 291, 3) := by decide +kernel
theorem dX7_digestOne_14 : decode cX7_digestOne 14 = .ok (.return_, 1) := by decide +kernel
theorem lg_wsX7_digestLawn_0 : GoodIn wsX7_digestLawn wsX7_digestLawn_r1 := goodIn_sub (fun _ h => (List.mem_cons_of_mem _ (List.mem_append_left _ (List.mem_append_left _ h)))) (by decide +kernel)
theorem lg_wsX7_digestLawn_1 : GoodIn wsX7_digestLawn wsX7_digestLawn_r2 := goodIn_sub (fun _ h => (List.mem_cons_of_mem _ (List.mem_append_left _ (List.mem_append_right _ (List.mem_append_left _ h))))) (by decide +kernel)
theorem lg_wsX7_digestLawn_2 : GoodIn wsX7_digestLawn wsX7_digestLawn_r3 := goodIn_sub (fun _ h => (List.mem_cons_of_mem _ (List.mem_append_left _ (List.mem_append_right _ (List.mem_append_right _ (List.mem_append_left _ h)))))) (by decide +kernel)
theorem lg_wsX7_digestLawn_3 : GoodIn wsX7_digestLawn wsX7_digestLawn_r4 := goodIn_sub (fun _ h => (List.mem_cons_of_mem _ (List.mem_append_left _ (List.mem_append_right _ (List.mem_append_right _ (List.mem_append_right _ h)))))) (by decide +kernel)
theorem ls_wsX7_digestLawn_0 : GoodIn wsX7_digestLawn wsX70 := goodIn_sub (fun _ h => (List.mem_cons_of_mem _ (List.mem_append_right _ h))) (by decide +kernel)
set_option maxRecDepth 20000 in
theorem ggX7_digestLawn_X7_toldOfTuft : GoodIn wsX7_digestLawn wsX7_toldOfTuft := (gi_cons (lg_wsX7_digestLawn_0 _ (List.mem_of_getElem? (i := 5) rfl)) (goodIn_app (goodIn_app (gi_cons (lg_wsX7_digestLawn_0 _ (List.mem_of_getElem? (i := 0) rfl)) (gi_cons (lg_wsX7_digestLawn_0 _ (List.mem_of_getElem? (i := 6) rfl)) (gi_cons (lg_wsX7_digestLawn_0 _ (List.mem_of_getElem? (i := 7) rfl)) (gi_cons (lg_wsX7_digestLawn_0 _ (List.mem_of_getElem? (i := 8) rfl)) (gi_cons (lg_wsX7_digestLawn_0 _ (List.mem_of_getElem? (i := 9) rfl)) (gi_cons (lg_wsX7_digestLawn_0 _ (List.mem_of_getElem? (i := 10) rfl)) (gi_cons (lg_wsX7_digestLawn_0 _ (List.mem_of_getElem? (i := 4) rfl)) (gi_cons (lg_wsX7_digestLawn_0 _ (List.mem_of_getElem? (i := 11) rfl)) (gi_cons (lg_wsX7_digestLawn_0 _ (List.mem_of_getElem? (i := 12) rfl)) (gi_cons (lg_wsX7_digestLawn_0 _ (List.mem_of_getElem? (i := 13) rfl)) (gi_cons (lg_wsX7_digestLawn_0 _ (List.mem_of_getElem? (i := 14) rfl)) (gi_cons (lg_wsX7_digestLawn_0 _ (List.mem_of_getElem? (i := 15) rfl)) (gi_cons (lg_wsX7_digestLawn_0 _ (List.mem_of_getElem? (i := 16) rfl)) (gi_cons (lg_wsX7_digestLawn_0 _ (List.mem_of_getElem? (i := 17) rfl)) (gi_cons (lg_wsX7_digestLawn_0 _ (List.mem_of_getElem? (i := 18) rfl)) (gi_cons (lg_wsX7_digestLawn_0 _ (List.mem_of_getElem? (i := 19) rfl)) (gi_cons (lg_wsX7_digestLawn_0 _ (List.mem_of_getElem? (i := 20) rfl)) (gi_cons (lg_wsX7_digestLawn_0 _ (List.mem_of_getElem? (i := 21) rfl)) (gi_cons (lg_wsX7_digestLawn_0 _ (List.mem_of_getElem? (i := 22) rfl)) (gi_cons (lg_wsX7_digestLawn_0 _ (List.mem_of_getElem? (i := 23) rfl)) (gi_cons (lg_wsX7_digestLawn_1 _ (List.mem_of_getElem? (i := 0) rfl)) (gi_cons (lg_wsX7_digestLawn_1 _ (List.mem_of_getElem? (i := 1) rfl)) (gi_cons (lg_wsX7_digestLawn_1 _ (List.mem_of_getElem? (i := 2) rfl)) (gi_cons (lg_wsX7_digestLawn_1 _ (List.mem_of_getElem? (i := 3) rfl)) gi_nil)))))))))))))))))))))))) (goodIn_app (gi_cons (lg_wsX7_digestLawn_1 _ (List.mem_of_getElem? (i := 4) rfl)) (gi_cons (lg_wsX7_digestLawn_1 _ (List.mem_of_getElem? (i := 5) rfl)) (gi_cons (lg_wsX7_digestLawn_1 _ (List.mem_of_getElem? (i := 6) rfl)) (gi_cons (lg_wsX7_digestLawn_1 _ (List.mem_of_getElem? (i := 7) rfl)) (gi_cons (lg_wsX7_digestLawn_1 _ (List.mem_of_getElem? (i := 8) rfl)) (gi_cons (lg_wsX7_digestLawn_1 _ (List.mem_of_getElem? (i := 9) rfl)) (gi_cons (lg_wsX7_digestLawn_1 _ (List.mem_of_getElem? (i := 10) rfl)) (gi_cons (lg_wsX7_digestLawn_1 _ (List.mem_of_getElem? (i := 11) rfl)) (gi_cons (lg_wsX7_digestLawn_1 _ (List.mem_of_getElem? (i := 12) rfl)) (gi_cons (lg_wsX7_digestLawn_1 _ (List.mem_of_getElem? (i := 13) rfl)) (gi_cons (lg_wsX7_digestLawn_1 _ (List.mem_of_getElem? (i := 14) rfl)) (gi_cons (lg_wsX7_digestLawn_1 _ (List.mem_of_getElem? (i := 15) rfl)) (gi_cons (lg_wsX7_digestLawn_1 _ (List.mem_of_getElem? (i := 16) rfl)) (gi_cons (lg_wsX7_digestLawn_1 _ (List.mem_of_getElem? (i := 17) rfl)) (gi_cons (lg_wsX7_digestLawn_1 _ (List.mem_of_getElem? (i := 18) rfl)) (gi_cons (lg_wsX7_digestLawn_1 _ (List.mem_of_getElem? (i := 19) rfl)) (gi_cons (lg_wsX7_digestLawn_1 _ (List.mem_of_getElem? (i := 20) rfl)) (gi_cons (lg_wsX7_digestLawn_1 _ (List.mem_of_getElem? (i := 21) rfl)) (gi_cons (lg_wsX7_digestLawn_1 _ (List.mem_of_getElem? (i := 22) rfl)) (gi_cons (lg_wsX7_digestLawn_1 _ (List.mem_of_getElem? (i := 23) rfl)) (gi_cons (lg_wsX7_digestLawn_2 _ (List.mem_of_getElem? (i := 0) rfl)) (gi_cons (lg_wsX7_digestLawn_2 _ (List.mem_of_getElem? (i := 1) rfl)) (gi_cons (lg_wsX7_digestLawn_2 _ (List.mem_of_getElem? (i := 2) rfl)) (gi_cons (lg_wsX7_digestLawn_2 _ (List.mem_of_getElem? (i := 3) rfl)) gi_nil)))))))))))))))))))))))) (gi_cons (lg_wsX7_digestLawn_2 _ (List.mem_of_getElem? (i := 4) rfl)) (gi_cons (lg_wsX7_digestLawn_2 _ (List.mem_of_getElem? (i := 5) rfl)) (gi_cons (lg_wsX7_digestLawn_2 _ (List.mem_of_getElem? (i := 6) rfl)) (gi_cons (lg_wsX7_digestLawn_2 _ (List.mem_of_getElem? (i := 7) rfl)) (gi_cons (lg_wsX7_digestLawn_2 _ (List.mem_of_getElem? (i := 8) rfl)) gi_nil))))))) ls_wsX7_digestLawn_0))
set_option maxRecDepth 20000 in
theorem gX7_digestLawn_X7_toldOfTuft : GoodIn wsX7_digestLawn (wsV RX7 221 RX7 yX7_toldOfTuft wsX7_toldOfTuft) := goodIn_app (gi_cons (lg_wsX7_digestLawn_0 _ (List.mem_of_getElem? (i := 1) rfl)) (gi_cons (lg_wsX7_digestLawn_0 _ (List.mem_of_getElem? (i := 2) rfl)) (gi_cons (lg_wsX7_digestLawn_0 _ (List.mem_of_getElem? (i := 3) rfl)) (gi_cons (lg_wsX7_digestLawn_0 _ (List.mem_of_getElem? (i := 4) rfl)) gi_nil)))) ggX7_digestLawn_X7_toldOfTuft
set_option maxRecDepth 20000 in
theorem ggX7_digestLawn_X7_digestOne : GoodIn wsX7_digestLawn wsX7_digestOne := (gi_cons (lg_wsX7_digestLawn_2 _ (List.mem_of_getElem? (i := 12) rfl)) (goodIn_app (gi_cons (lg_wsX7_digestLawn_2 _ (List.mem_of_getElem? (i := 13) rfl)) (gi_cons (lg_wsX7_digestLawn_2 _ (List.mem_of_getElem? (i := 14) rfl)) gi_nil)) ls_wsX7_digestLawn_0))
set_option maxRecDepth 20000 in
theorem gX7_digestLawn_X7_digestOne : GoodIn wsX7_digestLawn (wsV RX7 295 RX7 yX7_digestOne wsX7_digestOne) := goodIn_app (gi_cons (lg_wsX7_digestLawn_2 _ (List.mem_of_getElem? (i := 9) rfl)) (gi_cons (lg_wsX7_digestLawn_2 _ (List.mem_of_getElem? (i := 10) rfl)) (gi_cons (lg_wsX7_digestLawn_2 _ (List.mem_of_getElem? (i := 11) rfl)) (gi_cons (lg_wsX7_digestLawn_0 _ (List.mem_of_getElem? (i := 4) rfl)) gi_nil)))) ggX7_digestLawn_X7_digestOne
set_option maxRecDepth 20000 in
theorem ggX7_digestLawn_X7_toldOfMole : GoodIn wsX7_digestLawn wsX7_toldOfMole := (gi_cons (lg_wsX7_digestLawn_2 _ (List.mem_of_getElem? (i := 18) rfl)) (goodIn_app (gi_cons (lg_wsX7_digestLawn_0 _ (List.mem_of_getElem? (i := 0) rfl)) (gi_cons (lg_wsX7_digestLawn_0 _ (List.mem_of_getElem? (i := 16) rfl)) (gi_cons (lg_wsX7_digestLawn_0 _ (List.mem_of_getElem? (i := 17) rfl)) (gi_cons (lg_wsX7_digestLawn_0 _ (List.mem_of_getElem? (i := 4) rfl)) (gi_cons (lg_wsX7_digestLawn_0 _ (List.mem_of_getElem? (i := 18) rfl)) gi_nil))))) ls_wsX7_digestLawn_0))
set_option maxRecDepth 20000 in
theorem gX7_digestLawn_X7_toldOfMole : GoodIn wsX7_digestLawn (wsV RX7 224 RX7 yX7_toldOfMole wsX7_toldOfMole) := goodIn_app (gi_cons (lg_wsX7_digestLawn_2 _ (List.mem_of_getElem? (i := 15) rfl)) (gi_cons (lg_wsX7_digestLawn_2 _ (List.mem_of_getElem? (i := 16) rfl)) (gi_cons (lg_wsX7_digestLawn_2 _ (List.mem_of_getElem? (i := 17) rfl)) (gi_cons (lg_wsX7_digestLawn_0 _ (List.mem_of_getElem? (i := 4) rfl)) gi_nil)))) ggX7_digestLawn_X7_toldOfMole
set_option maxRecDepth 20000 in
theorem ggX7_digestLawn_X7_tunnels : GoodIn wsX7_digestLawn wsX7_tunnels := (gi_cons (lg_wsX7_digestLawn_2 _ (List.mem_of_getElem? (i := 22) rfl)) (goodIn_app (gi_cons (lg_wsX7_digestLawn_0 _ (List.mem_of_getElem? (i := 0) rfl)) gi_nil) ls_wsX7_digestLawn_0))
set_option maxRecDepth 20000 in
theorem gX7_digestLawn_X7_tunnels : GoodIn wsX7_digestLawn (wsV RX7 194 RX7 yX7_tunnels wsX7_tunnels) := goodIn_app (gi_cons (lg_wsX7_digestLawn_2 _ (List.mem_of_getElem? (i := 19) rfl)) (gi_cons (lg_wsX7_digestLawn_2 _ (List.mem_of_getElem? (i := 20) rfl)) (gi_cons (lg_wsX7_digestLawn_2 _ (List.mem_of_getElem? (i := 21) rfl)) (gi_cons (lg_wsX7_digestLawn_0 _ (List.mem_of_getElem? (i := 4) rfl)) gi_nil)))) ggX7_digestLawn_X7_tunnels
set_option maxRecDepth 20000 in
theorem ggX7_digestLawn_X7_toldOfTunnel : GoodIn wsX7_digestLawn wsX7_toldOfTunnel := (gi_cons (lg_wsX7_digestLawn_3 _ (List.mem_of_getElem? (i := 2) rfl)) (goodIn_app (gi_cons (lg_wsX7_digestLawn_3 _ (List.mem_of_getElem? (i := 3) rfl)) (gi_cons (lg_wsX7_digestLawn_3 _ (List.mem_of_getElem? (i := 4) rfl)) (gi_cons (lg_wsX7_digestLawn_3 _ (List.mem_of_getElem? (i := 5) rfl)) (gi_cons (lg_wsX7_digestLawn_0 _ (List.mem_of_getElem? (i := 4) rfl)) (gi_cons (lg_wsX7_digestLawn_3 _ (List.mem_of_getElem? (i := 6) rfl)) (gi_cons (lg_wsX7_digestLawn_1 _ (List.mem_of_getElem? (i := 21) rfl)) (gi_cons (lg_wsX7_digestLawn_1 _ (List.mem_of_getElem? (i := 22) rfl)) (gi_cons (lg_wsX7_digestLawn_1 _ (List.mem_of_getElem? (i := 23) rfl)) (gi_cons (lg_wsX7_digestLawn_2 _ (List.mem_of_getElem? (i := 0) rfl)) (gi_cons (lg_wsX7_digestLawn_0 _ (List.mem_of_getElem? (i := 0) rfl)) (gi_cons (lg_wsX7_digestLawn_0 _ (List.mem_of_getElem? (i := 12) rfl)) (gi_cons (lg_wsX7_digestLawn_0 _ (List.mem_of_getElem? (i := 13) rfl)) (gi_cons (lg_wsX7_digestLawn_0 _ (List.mem_of_getElem? (i := 14) rfl)) (gi_cons (lg_wsX7_digestLawn_0 _ (List.mem_of_getElem? (i := 15) rfl)) gi_nil)))))))))))))) ls_wsX7_digestLawn_0))
set_option maxRecDepth 20000 in
theorem gX7_digestLawn_X7_toldOfTunnel : GoodIn wsX7_digestLawn (wsV RX7 233 RX7 yX7_toldOfTunnel wsX7_toldOfTunnel) := goodIn_app (gi_cons (lg_wsX7_digestLawn_2 _ (List.mem_of_getElem? (i := 23) rfl)) (gi_cons (lg_wsX7_digestLawn_3 _ (List.mem_of_getElem? (i := 0) rfl)) (gi_cons (lg_wsX7_digestLawn_3 _ (List.mem_of_getElem? (i := 1) rfl)) (gi_cons (lg_wsX7_digestLawn_0 _ (List.mem_of_getElem? (i := 4) rfl)) gi_nil)))) ggX7_digestLawn_X7_toldOfTunnel
set_option maxRecDepth 20000 in
theorem ggX7_digestLawn_X7_cellOf : GoodIn wsX7_digestLawn wsX7_cellOf := (gi_cons (lg_wsX7_digestLawn_3 _ (List.mem_of_getElem? (i := 10) rfl)) (goodIn_app (gi_cons (lg_wsX7_digestLawn_2 _ (List.mem_of_getElem? (i := 23) rfl)) (gi_cons (lg_wsX7_digestLawn_3 _ (List.mem_of_getElem? (i := 0) rfl)) (gi_cons (lg_wsX7_digestLawn_3 _ (List.mem_of_getElem? (i := 1) rfl)) (gi_cons (lg_wsX7_digestLawn_0 _ (List.mem_of_getElem? (i := 4) rfl)) (gi_cons (lg_wsX7_digestLawn_3 _ (List.mem_of_getElem? (i := 2) rfl)) (gi_cons (lg_wsX7_digestLawn_3 _ (List.mem_of_getElem? (i := 3) rfl)) (gi_cons (lg_wsX7_digestLawn_3 _ (List.mem_of_getElem? (i := 4) rfl)) (gi_cons (lg_wsX7_digestLawn_3 _ (List.mem_of_getElem? (i := 5) rfl)) (gi_cons (lg_wsX7_digestLawn_3 _ (List.mem_of_getElem? (i := 6) rfl)) (gi_cons (lg_wsX7_digestLawn_1 _ (List.mem_of_getElem? (i := 21) rfl)) (gi_cons (lg_wsX7_digestLawn_1 _ (List.mem_of_getElem? (i := 22) rfl)) (gi_cons (lg_wsX7_digestLawn_1 _ (List.mem_of_getElem? (i := 23) rfl)) (gi_cons (lg_wsX7_digestLawn_2 _ (List.mem_of_getElem? (i := 0) rfl)) (gi_cons (lg_wsX7_digestLawn_0 _ (List.mem_of_getElem? (i := 0) rfl)) (gi_cons (lg_wsX7_digestLawn_0 _ (List.mem_of_getElem? (i := 12) rfl)) (gi_cons (lg_wsX7_digestLawn_0 _ (List.mem_of_getElem? (i := 13) rfl)) (gi_cons (lg_wsX7_digestLawn_0 _ (List.mem_of_getElem? (i := 14) rfl)) (gi_cons (lg_wsX7_digestLawn_0 _ (List.mem_of_getElem? (i := 15) rfl)) gi_nil)))))))))))))))))) ls_wsX7_digestLawn_0))
set_option maxRecDepth 20000 in
theorem gX7_digestLawn_X7_cellOf : GoodIn wsX7_digestLawn (wsV RX7 236 RX7 yX7_cellOf wsX7_cellOf) := goodIn_app (gi_cons (lg_wsX7_digestLawn_3 _ (List.mem_of_getElem? (i := 7) rfl)) (gi_cons (lg_wsX7_digestLawn_3 _ (List.mem_of_getElem? (i := 8) rfl)) (gi_cons (lg_wsX7_digestLawn_3 _ (List.mem_of_getElem? (i := 9) rfl)) (gi_cons (lg_wsX7_digestLawn_0 _ (List.mem_of_getElem? (i := 4) rfl)) gi_nil)))) ggX7_digestLawn_X7_cellOf
theorem dX7_digestLawn_0 : decode cX7_digestLawn 0 = .ok (.iconst 0, 1) := by decide +kernel
theorem dX7_digestLawn_1 : decode cX7_digestLawn 1 = .ok (.istore_n 1, 1) := by decide +kernel
theorem dX7_digestLawn_2 : decode cX7_digestLawn 2 = .ok (.iload_n 1, 1) := by decide +kernel
theorem dX7_digestLawn_3 : decode cX7_digestLawn 3 = .ok (.bipush 64, 2) := by decide +kernel
theorem dX7_digestLawn_5 : decode cX7_digestLawn 5 = .ok (.if_icmp .ge 34, 3) := by decide +kernel
theorem dX7_digestLawn_8 : decode cX7_digestLawn 8 = .ok (.iconst 0, 1) := by decide +kernel
theorem dX7_digestLawn_9 : decode cX7_digestLawn 9 = .ok (.istore_n 2, 1) := by decide +kernel
theorem dX7_digestLawn_10 : decode cX7_digestLawn 10 = .ok (.iload_n 2, 1) := by decide +kernel
theorem dX7_digestLawn_11 : decode cX7_digestLawn 11 = .ok (.bipush 9, 2) := by decide +kernel
theorem dX7_digestLawn_13 : decode cX7_digestLawn 13 = .ok (.if_icmp .ge 20, 3) := by decide +kernel
theorem dX7_digestLawn_16 : decode cX7_digestLawn 16 = .ok (.aload_n 0, 1) := by decide +kernel
theorem dX7_digestLawn_17 : decode cX7_digestLawn 17 = .ok (.aload_n 0, 1) := by decide +kernel
theorem dX7_digestLawn_18 : decode cX7_digestLawn 18 = .ok (.iload_n 1, 1) := by decide +kernel
theorem dX7_digestLawn_19 : decode cX7_digestLawn 19 = .ok (.iload_n 2, 1) := by decide +kernel
theorem dX7_digestLawn_20 : decode cX7_digestLawn 20 = .ok (.invokevirtual 221, 3) := by decide +kernel
theorem dX7_digestLawn_23 : decode cX7_digestLawn 23 = .ok (.i2l, 1) := by decide +kernel
theorem dX7_digestLawn_24 : decode cX7_digestLawn 24 = .ok (.invokevirtual 295, 3) := by decide +kernel
theorem dX7_digestLawn_27 : decode cX7_digestLawn 27 = .ok (.iinc 2 1, 3) := by decide +kernel
theorem dX7_digestLawn_30 : decode cX7_digestLawn 30 = .ok (.goto (-20), 3) := by decide +kernel
theorem dX7_digestLawn_33 : decode cX7_digestLawn 33 = .ok (.iinc 1 1, 3) := by decide +kernel
theorem dX7_digestLawn_36 : decode cX7_digestLawn 36 = .ok (.goto (-34), 3) := by decide +kernel
theorem dX7_digestLawn_39 : decode cX7_digestLawn 39 = .ok (.iconst 0, 1) := by decide +kernel
theorem dX7_digestLawn_40 : decode cX7_digestLawn 40 = .ok (.istore_n 1, 1) := by decide +kernel
theorem dX7_digestLawn_41 : decode cX7_digestLawn 41 = .ok (.iload_n 1, 1) := by decide +kernel
theorem dX7_digestLawn_42 : decode cX7_digestLawn 42 = .ok (.aload_n 0, 1) := by decide +kernel
theorem dX7_digestLawn_43 : decode cX7_digestLawn 43 = .ok (.getfield 7, 3) := by decide +kernel
theorem dX7_digestLawn_46 : decode cX7_digestLawn 46 = .ok (.iconst 1, 1) := by decide +kernel
theorem dX7_digestLawn_47 : decode cX7_digestLawn 47 = .ok (.iaload, 1) := by decide +kernel
theorem dX7_digestLawn_48 : decode cX7_digestLawn 48 = .ok (.if_icmp .ge 34, 3) := by decide +kernel
theorem dX7_digestLawn_51 : decode cX7_digestLawn 51 = .ok (.iconst 0, 1) := by decide +kernel
theorem dX7_digestLawn_52 : decode cX7_digestLawn 52 = .ok (.istore_n 2, 1) := by decide +kernel
theorem dX7_digestLawn_53 : decode cX7_digestLawn 53 = .ok (.iload_n 2, 1) := by decide +kernel
theorem dX7_digestLawn_54 : decode cX7_digestLawn 54 = .ok (.bipush 7, 2) := by decide +kernel
theorem dX7_digestLawn_56 : decode cX7_digestLawn 56 = .ok (.if_icmp .ge 20, 3) := by decide +kernel
theorem dX7_digestLawn_59 : decode cX7_digestLawn 59 = .ok (.aload_n 0, 1) := by decide +kernel
theorem dX7_digestLawn_60 : decode cX7_digestLawn 60 = .ok (.aload_n 0, 1) := by decide +kernel
theorem dX7_digestLawn_61 : decode cX7_digestLawn 61 = .ok (.iload_n 1, 1) := by decide +kernel
theorem dX7_digestLawn_62 : decode cX7_digestLawn 62 = .ok (.iload_n 2, 1) := by decide +kernel
theorem dX7_digestLawn_63 : decode cX7_digestLawn 63 = .ok (.invokevirtual 224, 3) := by decide +kernel
theorem dX7_digestLawn_66 : decode cX7_digestLawn 66 = .ok (.i2l, 1) := by decide +kernel
theorem dX7_digestLawn_67 : decode cX7_digestLawn 67 = .ok (.invokevirtual 295, 3) := by decide +kernel
theorem dX7_digestLawn_70 : decode cX7_digestLawn 70 = .ok (.iinc 2 1, 3) := by decide +kernel
theorem dX7_digestLawn_73 : decode cX7_digestLawn 73 = .ok (.goto (-20), 3) := by decide +kernel
theorem dX7_digestLawn_76 : decode cX7_digestLawn 76 = .ok (.iinc 1 1, 3) := by decide +kernel
theorem dX7_digestLawn_79 : decode cX7_digestLawn 79 = .ok (.goto (-38), 3) := by decide +kernel
theorem dX7_digestLawn_82 : decode cX7_digestLawn 82 = .ok (.iconst 0, 1) := by decide +kernel
theorem dX7_digestLawn_83 : decode cX7_digestLawn 83 = .ok (.istore_n 1, 1) := by decide +kernel
theorem dX7_digestLawn_84 : decode cX7_digestLawn 84 = .ok (.iload_n 1, 1) := by decide +kernel
theorem dX7_digestLawn_85 : decode cX7_digestLawn 85 = .ok (.aload_n 0, 1) := by decide +kernel
theorem dX7_digestLawn_86 : decode cX7_digestLawn 86 = .ok (.invokevirtual 194, 3) := by decide +kernel
theorem dX7_digestLawn_89 : decode cX7_digestLawn 89 = .ok (.if_icmp .ge 62, 3) := by decide +kernel
theorem dX7_digestLawn_92 : decode cX7_digestLawn 92 = .ok (.iconst 0, 1) := by decide +kernel
theorem dX7_digestLawn_93 : decode cX7_digestLawn 93 = .ok (.istore_n 2, 1) := by decide +kernel
theorem dX7_digestLawn_94 : decode cX7_digestLawn 94 = .ok (.iload_n 2, 1) := by decide +kernel
theorem dX7_digestLawn_95 : decode cX7_digestLawn 95 = .ok (.iconst 3, 1) := by decide +kernel
theorem dX7_digestLawn_96 : decode cX7_digestLawn 96 = .ok (.if_icmp .ge 20, 3) := by decide +kernel
theorem dX7_digestLawn_99 : decode cX7_digestLawn 99 = .ok (.aload_n 0, 1) := by decide +kernel
theorem dX7_digestLawn_100 : decode cX7_digestLawn 100 = .ok (.aload_n 0, 1) := by decide +kernel
theorem dX7_digestLawn_101 : decode cX7_digestLawn 101 = .ok (.iload_n 1, 1) := by decide +kernel
theorem dX7_digestLawn_102 : decode cX7_digestLawn 102 = .ok (.iload_n 2, 1) := by decide +kernel
theorem dX7_digestLawn_103 : decode cX7_digestLawn 103 = .ok (.invokevirtual 233, 3) := by decide +kernel
theorem dX7_digestLawn_106 : decode cX7_digestLawn 106 = .ok (.i2l, 1) := by decide +kernel
theorem dX7_digestLawn_107 : decode cX7_digestLawn 107 = .ok (.invokevirtual 295, 3) := by decide +kernel
theorem dX7_digestLawn_110 : decode cX7_digestLawn 110 = .ok (.iinc 2 1, 3) := by decide +kernel
theorem dX7_digestLawn_113 : decode cX7_digestLawn 113 = .ok (.goto (-19), 3) := by decide +kernel
theorem dX7_digestLawn_116 : decode cX7_digestLawn 116 = .ok (.iconst 0, 1) := by decide +kernel
theorem dX7_digestLawn_117 : decode cX7_digestLawn 117 = .ok (.istore_n 2, 1) := by decide +kernel
theorem dX7_digestLawn_118 : decode cX7_digestLawn 118 = .ok (.iload_n 2, 1) := by decide +kernel
theorem dX7_digestLawn_119 : decode cX7_digestLawn 119 = .ok (.aload_n 0, 1) := by decide +kernel
theorem dX7_digestLawn_120 : decode cX7_digestLawn 120 = .ok (.iload_n 1, 1) := by decide +kernel
theorem dX7_digestLawn_121 : decode cX7_digestLawn 121 = .ok (.iconst 2, 1) := by decide +kernel
theorem dX7_digestLawn_122 : decode cX7_digestLawn 122 = .ok (.invokevirtual 233, 3) := by decide +kernel
theorem dX7_digestLawn_125 : decode cX7_digestLawn 125 = .ok (.if_icmp .ge 20, 3) := by decide +kernel
theorem dX7_digestLawn_128 : decode cX7_digestLawn 128 = .ok (.aload_n 0, 1) := by decide +kernel
theorem dX7_digestLawn_129 : decode cX7_digestLawn 129 = .ok (.aload_n 0, 1) := by decide +kernel
theorem dX7_digestLawn_130 : decode cX7_digestLawn 130 = .ok (.iload_n 1, 1) := by decide +kernel
theorem dX7_digestLawn_131 : decode cX7_digestLawn 131 = .ok (.iload_n 2, 1) := by decide +kernel
theorem dX7_digestLawn_132 : decode cX7_digestLawn 132 = .ok (.invokevirtual 236, 3) := by decide +kernel
theorem dX7_digestLawn_135 : decode cX7_digestLawn 135 = .ok (.i2l, 1) := by decide +kernel
theorem dX7_digestLawn_136 : decode cX7_digestLawn 136 = .ok (.invokevirtual 295, 3) := by decide +kernel
theorem dX7_digestLawn_139 : decode cX7_digestLawn 139 = .ok (.iinc 2 1, 3) := by decide +kernel
theorem dX7_digestLawn_142 : decode cX7_digestLawn 142 = .ok (.goto (-24), 3) := by decide +kernel
theorem dX7_digestLawn_145 : decode cX7_digestLawn 145 = .ok (.iinc 1 1, 3) := by decide +kernel
theorem dX7_digestLawn_148 : decode cX7_digestLawn 148 = .ok (.goto (-64), 3) := by decide +kernel
theorem dX7_digestLawn_151 : decode cX7_digestLawn 151 = .ok (.return_, 1) := by decide +kernel
theorem lg_wsX7_digestMounds_0 : GoodIn wsX7_digestMounds wsX7_digestMounds_r1 := goodIn_sub (fun _ h => (List.mem_cons_of_mem _ (List.mem_append_left _ (List.mem_append_left _ h)))) (by decide +kernel)
theorem lg_wsX7_digestMounds_1 : GoodIn wsX7_digestMounds wsX7_digestMounds_r2 := goodIn_sub (fun _ h => (List.mem_cons_of_mem _ (List.mem_append_left _ (List.mem_append_right _ (List.mem_append_left _ h))))) (by decide +kernel)
theorem lg_wsX7_digestMounds_2 : GoodIn wsX7_digestMounds wsX7_digestMounds_r3 := goodIn_sub (fun _ h => (List.mem_cons_of_mem _ (List.mem_append_left _ (List.mem_append_right _ (List.mem_append_right _ (List.mem_append_left _ h)))))) (by decide +kernel)
theorem lg_wsX7_digestMounds_3 : GoodIn wsX7_digestMounds wsX7_digestMounds_r4 := goodIn_sub (fun _ h => (List.mem_cons_of_mem _ (List.mem_append_left _ (List.mem_append_right _ (List.mem_append_right _ (List.mem_append_right _ h)))))) (by decide +kernel)
theorem ls_wsX7_digestMounds_0 : GoodIn wsX7_digestMounds wsX70 := goodIn_sub (fun _ h => (List.mem_cons_of_mem _ (List.mem_append_right _ h))) (by decide +kernel)
set_option maxRecDepth 20000 in
theorem ggX7_digestMounds_X7_hasMound : GoodIn wsX7_digestMounds wsX7_hasMound := (gi_cons (lg_wsX7_digestMounds_0 _ (List.mem_of_getElem? (i := 4) rfl)) (goodIn_app (gi_cons (lg_wsX7_digestMounds_0 _ (List.mem_of_getElem? (i := 5) rfl)) gi_nil) ls_wsX7_digestMounds_0))
set_option maxRecDepth 20000 in
theorem gX7_digestMounds_X7_hasMound : GoodIn wsX7_digestMounds (wsV RX7 92 RX7 yX7_hasMound wsX7_hasMound) := goodIn_app (gi_cons (lg_wsX7_digestMounds_0 _ (List.mem_of_getElem? (i := 0) rfl)) (gi_cons (lg_wsX7_digestMounds_0 _ (List.mem_of_getElem? (i := 1) rfl)) (gi_cons (lg_wsX7_digestMounds_0 _ (List.mem_of_getElem? (i := 2) rfl)) (gi_cons (lg_wsX7_digestMounds_0 _ (List.mem_of_getElem? (i := 3) rfl)) gi_nil)))) ggX7_digestMounds_X7_hasMound
set_option maxRecDepth 20000 in
theorem ggX7_digestMounds_X7_fewestTo : GoodIn wsX7_digestMounds wsX7_fewestTo := (gi_cons (lg_wsX7_digestMounds_0 _ (List.mem_of_getElem? (i := 9) rfl)) (goodIn_app (gi_cons (lg_wsX7_digestMounds_0 _ (List.mem_of_getElem? (i := 10) rfl)) (gi_cons (lg_wsX7_digestMounds_0 _ (List.mem_of_getElem? (i := 11) rfl)) (gi_cons (lg_wsX7_digestMounds_0 _ (List.mem_of_getElem? (i := 12) rfl)) (gi_cons (lg_wsX7_digestMounds_0 _ (List.mem_of_getElem? (i := 13) rfl)) (gi_cons (lg_wsX7_digestMounds_0 _ (List.mem_of_getElem? (i := 3) rfl)) (gi_cons (lg_wsX7_digestMounds_0 _ (List.mem_of_getElem? (i := 14) rfl)) (gi_cons (lg_wsX7_digestMounds_0 _ (List.mem_of_getElem? (i := 5) rfl)) (gi_cons (lg_wsX7_digestMounds_0 _ (List.mem_of_getElem? (i := 0) rfl)) (gi_cons (lg_wsX7_digestMounds_0 _ (List.mem_of_getElem? (i := 1) rfl)) (gi_cons (lg_wsX7_digestMounds_0 _ (List.mem_of_getElem? (i := 2) rfl)) (gi_cons (lg_wsX7_digestMounds_0 _ (List.mem_of_getElem? (i := 4) rfl)) (gi_cons (lg_wsX7_digestMounds_0 _ (List.mem_of_getElem? (i := 15) rfl)) (gi_cons (lg_wsX7_digestMounds_0 _ (List.mem_of_getElem? (i := 16) rfl)) (gi_cons (lg_wsX7_digestMounds_0 _ (List.mem_of_getElem? (i := 17) rfl)) (gi_cons (lg_wsX7_digestMounds_0 _ (List.mem_of_getElem? (i := 18) rfl)) (gi_cons (lg_wsX7_digestMounds_0 _ (List.mem_of_getElem? (i := 19) rfl)) (gi_cons (lg_wsX7_digestMounds_0 _ (List.mem_of_getElem? (i := 20) rfl)) (gi_cons (lg_wsX7_digestMounds_0 _ (List.mem_of_getElem? (i := 21) rfl)) (gi_cons (lg_wsX7_digestMounds_0 _ (List.mem_of_getElem? (i := 22) rfl)) gi_nil))))))))))))))))))) ls_wsX7_digestMounds_0))
set_option maxRecDepth 20000 in
theorem gX7_digestMounds_X7_fewestTo : GoodIn wsX7_digestMounds (wsV RX7 254 RX7 yX7_fewestTo wsX7_fewestTo) := goodIn_app (gi_cons (lg_wsX7_digestMounds_0 _ (List.mem_of_getElem? (i := 6) rfl)) (gi_cons (lg_wsX7_digestMounds_0 _ (List.mem_of_getElem? (i := 7) rfl)) (gi_cons (lg_wsX7_digestMounds_0 _ (List.mem_of_getElem? (i := 8) rfl)) (gi_cons (lg_wsX7_digestMounds_0 _ (List.mem_of_getElem? (i := 3) rfl)) gi_nil)))) ggX7_digestMounds_X7_fewestTo
set_option maxRecDepth 20000 in
theorem ggX7_digestMounds_X7_digestOne : GoodIn wsX7_digestMounds wsX7_digestOne := (gi_cons (lg_wsX7_digestMounds_1 _ (List.mem_of_getElem? (i := 2) rfl)) (goodIn_app (gi_cons (lg_wsX7_digestMounds_1 _ (List.mem_of_getElem? (i := 3) rfl)) (gi_cons (lg_wsX7_digestMounds_1 _ (List.mem_of_getElem? (i := 4) rfl)) gi_nil)) ls_wsX7_digestMounds_0))
set_option maxRecDepth 20000 in
theorem gX7_digestMounds_X7_digestOne : GoodIn wsX7_digestMounds (wsV RX7 295 RX7 yX7_digestOne wsX7_digestOne) := goodIn_app (gi_cons (lg_wsX7_digestMounds_0 _ (List.mem_of_getElem? (i := 23) rfl)) (gi_cons (lg_wsX7_digestMounds_1 _ (List.mem_of_getElem? (i := 0) rfl)) (gi_cons (lg_wsX7_digestMounds_1 _ (List.mem_of_getElem? (i := 1) rfl)) (gi_cons (lg_wsX7_digestMounds_0 _ (List.mem_of_getElem? (i := 3) rfl)) gi_nil)))) ggX7_digestMounds_X7_digestOne
set_option maxRecDepth 20000 in
theorem ggX7_digestMounds_X7_whenDug : GoodIn wsX7_digestMounds wsX7_whenDug := (gi_cons (lg_wsX7_digestMounds_1 _ (List.mem_of_getElem? (i := 8) rfl)) (goodIn_app (goodIn_app (gi_cons (lg_wsX7_digestMounds_0 _ (List.mem_of_getElem? (i := 5) rfl)) (gi_cons (lg_wsX7_digestMounds_1 _ (List.mem_of_getElem? (i := 9) rfl)) (gi_cons (lg_wsX7_digestMounds_1 _ (List.mem_of_getElem? (i := 10) rfl)) (gi_cons (lg_wsX7_digestMounds_1 _ (List.mem_of_getElem? (i := 11) rfl)) (gi_cons (lg_wsX7_digestMounds_0 _ (List.mem_of_getElem? (i := 3) rfl)) (gi_cons (lg_wsX7_digestMounds_1 _ (List.mem_of_getElem? (i := 12) rfl)) (gi_cons (lg_wsX7_digestMounds_1 _ (List.mem_of_getElem? (i := 13) rfl)) (gi_cons (lg_wsX7_digestMounds_1 _ (List.mem_of_getElem? (i := 14) rfl)) (gi_cons (lg_wsX7_digestMounds_1 _ (List.mem_of_getElem? (i := 15) rfl)) (gi_cons (lg_wsX7_digestMounds_1 _ (List.mem_of_getElem? (i := 16) rfl)) (gi_cons (lg_wsX7_digestMounds_1 _ (List.mem_of_getElem? (i := 17) rfl)) (gi_cons (lg_wsX7_digestMounds_1 _ (List.mem_of_getElem? (i := 18) rfl)) (gi_cons (lg_wsX7_digestMounds_1 _ (List.mem_of_getElem? (i := 19) rfl)) (gi_cons (lg_wsX7_digestMounds_1 _ (List.mem_of_getElem? (i := 20) rfl)) (gi_cons (lg_wsX7_digestMounds_1 _ (List.mem_of_getElem? (i := 21) rfl)) (gi_cons (lg_wsX7_digestMounds_1 _ (List.mem_of_getElem? (i := 22) rfl)) (gi_cons (lg_wsX7_digestMounds_1 _ (List.mem_of_getElem? (i := 23) rfl)) (gi_cons (lg_wsX7_digestMounds_2 _ (List.mem_of_getElem? (i := 0) rfl)) (gi_cons (lg_wsX7_digestMounds_2 _ (List.mem_of_getElem? (i := 1) rfl)) (gi_cons (lg_wsX7_digestMounds_2 _ (List.mem_of_getElem? (i := 2) rfl)) (gi_cons (lg_wsX7_digestMounds_2 _ (List.mem_of_getElem? (i := 3) rfl)) (gi_cons (lg_wsX7_digestMounds_2 _ (List.mem_of_getElem? (i := 4) rfl)) (gi_cons (lg_wsX7_digestMounds_0 _ (List.mem_of_getElem? (i := 19) rfl)) (gi_cons (lg_wsX7_digestMounds_0 _ (List.mem_of_getElem? (i := 20) rfl)) gi_nil)))))))))))))))))))))))) (goodIn_app (gi_cons (lg_wsX7_digestMounds_0 _ (List.mem_of_getElem? (i := 21) rfl)) (gi_cons (lg_wsX7_digestMounds_0 _ (List.mem_of_getElem? (i := 22) rfl)) (gi_cons (lg_wsX7_digestMounds_2 _ (List.mem_of_getElem? (i := 5) rfl)) (gi_cons (lg_wsX7_digestMounds_2 _ (List.mem_of_getElem? (i := 6) rfl)) (gi_cons (lg_wsX7_digestMounds_2 _ (List.mem_of_getElem? (i := 7) rfl)) (gi_cons (lg_wsX7_digestMounds_2 _ (List.mem_of_getElem? (i := 8) rfl)) (gi_cons (lg_wsX7_digestMounds_0 _ (List.mem_of_getElem? (i := 15) rfl)) (gi_cons (lg_wsX7_digestMounds_0 _ (List.mem_of_getElem? (i := 16) rfl)) (gi_cons (lg_wsX7_digestMounds_0 _ (List.mem_of_getElem? (i := 17) rfl)) (gi_cons (lg_wsX7_digestMounds_0 _ (List.mem_of_getElem? (i := 18) rfl)) (gi_cons (lg_wsX7_digestMounds_2 _ (List.mem_of_getElem? (i := 9) rfl)) (gi_cons (lg_wsX7_digestMounds_2 _ (List.mem_of_getElem? (i := 10) rfl)) (gi_cons (lg_wsX7_digestMounds_2 _ (List.mem_of_getElem? (i := 11) rfl)) (gi_cons (lg_wsX7_digestMounds_2 _ (List.mem_of_getElem? (i := 12) rfl)) (gi_cons (lg_wsX7_digestMounds_2 _ (List.mem_of_getElem? (i := 13) rfl)) (gi_cons (lg_wsX7_digestMounds_2 _ (List.mem_of_getElem? (i := 14) rfl)) (gi_cons (lg_wsX7_digestMounds_2 _ (List.mem_of_getElem? (i := 15) rfl)) (gi_cons (lg_wsX7_digestMounds_2 _ (List.mem_of_getElem? (i := 16) rfl)) (gi_cons (lg_wsX7_digestMounds_0 _ (List.mem_of_getElem? (i := 0) rfl)) (gi_cons (lg_wsX7_digestMounds_0 _ (List.mem_of_getElem? (i := 1) rfl)) (gi_cons (lg_wsX7_digestMounds_0 _ (List.mem_of_getElem? (i := 2) rfl)) (gi_cons (lg_wsX7_digestMounds_0 _ (List.mem_of_getElem? (i := 4) rfl)) (gi_cons (lg_wsX7_digestMounds_2 _ (List.mem_of_getElem? (i := 17) rfl)) (gi_cons (lg_wsX7_digestMounds_2 _ (List.mem_of_getElem? (i := 18) rfl)) gi_nil)))))))))))))))))))))))) (goodIn_app (gi_cons (lg_wsX7_digestMounds_2 _ (List.mem_of_getElem? (i := 19) rfl)) (gi_cons (lg_wsX7_digestMounds_2 _ (List.mem_of_getElem? (i := 20) rfl)) (gi_cons (lg_wsX7_digestMounds_2 _ (List.mem_of_getElem? (i := 21) rfl)) (gi_cons (lg_wsX7_digestMounds_2 _ (List.mem_of_getElem? (i := 22) rfl)) (gi_cons (lg_wsX7_digestMounds_2 _ (List.mem_of_getElem? (i := 23) rfl)) (gi_cons (lg_wsX7_digestMounds_3 _ (List.mem_of_getElem? (i := 0) rfl)) (gi_cons (lg_wsX7_digestMounds_3 _ (List.mem_of_getElem? (i := 1) rfl)) (gi_cons (lg_wsX7_digestMounds_3 _ (List.mem_of_getElem? (i := 2) rfl)) (gi_cons (lg_wsX7_digestMounds_3 _ (List.mem_of_getElem? (i := 3) rfl)) (gi_cons (lg_wsX7_digestMounds_3 _ (List.mem_of_getElem? (i := 4) rfl)) (gi_cons (lg_wsX7_digestMounds_3 _ (List.mem_of_getElem? (i := 5) rfl)) (gi_cons (lg_wsX7_digestMounds_3 _ (List.mem_of_getElem? (i := 6) rfl)) (gi_cons (lg_wsX7_digestMounds_3 _ (List.mem_of_getElem? (i := 7) rfl)) (gi_cons (lg_wsX7_digestMounds_3 _ (List.mem_of_getElem? (i := 8) rfl)) (gi_cons (lg_wsX7_digestMounds_3 _ (List.mem_of_getElem? (i := 9) rfl)) (gi_cons (lg_wsX7_digestMounds_3 _ (List.mem_of_getElem? (i := 10) rfl)) (gi_cons (lg_wsX7_digestMounds_3 _ (List.mem_of_getElem? (i := 11) rfl)) (gi_cons (lg_wsX7_digestMounds_3 _ (List.mem_of_getElem? (i := 12) rfl)) (gi_cons (lg_wsX7_digestMounds_3 _ (List.mem_of_getElem? (i := 13) rfl)) (gi_cons (lg_wsX7_digestMounds_3 _ (List.mem_of_getElem? (i := 14) rfl)) (gi_cons (lg_wsX7_digestMounds_3 _ (List.mem_of_getElem? (i := 15) rfl)) (gi_cons (lg_wsX7_digestMounds_3 _ (List.mem_of_getElem? (i := 16) rfl)) (gi_cons (lg_wsX7_digestMounds_3 _ (List.mem_of_getElem? (i := 17) rfl)) (gi_cons (lg_wsX7_digestMounds_3 _ (List.mem_of_getElem? (i := 18) rfl)) gi_nil)))))))))))))))))))))))) (gi_cons (lg_wsX7_digestMounds_3 _ (List.mem_of_getElem? (i := 19) rfl)) (gi_cons (lg_wsX7_digestMounds_3 _ (List.mem_of_getElem? (i := 20) rfl)) (gi_cons (lg_wsX7_digestMounds_3 _ (List.mem_of_getElem? (i := 21) rfl)) gi_nil)))))) ls_wsX7_digestMounds_0))
set_option maxRecDepth 20000 in
theorem gX7_digestMounds_X7_whenDug : GoodIn wsX7_digestMounds (wsV RX7 263 RX7 yX7_whenDug wsX7_whenDug) := goodIn_app (gi_cons (lg_wsX7_digestMounds_1 _ (List.mem_of_getElem? (i := 5) rfl)) (gi_cons (lg_wsX7_digestMounds_1 _ (List.mem_of_getElem? (i := 6) rfl)) (gi_cons (lg_wsX7_digestMounds_1 _ (List.mem_of_getElem? (i := 7) rfl)) (gi_cons (lg_wsX7_digestMounds_0 _ (List.mem_of_getElem? (i := 3) rfl)) gi_nil)))) ggX7_digestMounds_X7_whenDug
theorem dX7_digestMounds_0 : decode cX7_digestMounds 0 = .ok (.iconst (-1), 1) := by decide +kernel
theorem dX7_digestMounds_1 : decode cX7_digestMounds 1 = .ok (.istore_n 1, 1) := by decide +kernel
theorem dX7_digestMounds_2 : decode cX7_digestMounds 2 = .ok (.iconst 0, 1) := by decide +kernel
theorem dX7_digestMounds_3 : decode cX7_digestMounds 3 = .ok (.istore_n 2, 1) := by decide +kernel
theorem dX7_digestMounds_4 : decode cX7_digestMounds 4 = .ok (.iload_n 2, 1) := by decide +kernel
theorem dX7_digestMounds_5 : decode cX7_digestMounds 5 = .ok (.bipush 64, 2) := by decide +kernel
theorem dX7_digestMounds_7 : decode cX7_digestMounds 7 = .ok (.if_icmp .ge 47, 3) := by decide +kernel
theorem dX7_digestMounds_10 : decode cX7_digestMounds 10 = .ok (.iload_n 1, 1) := by decide +kernel
theorem dX7_digestMounds_11 : decode cX7_digestMounds 11 = .ok (.iconst (-1), 1) := by decide +kernel
theorem dX7_digestMounds_12 : decode cX7_digestMounds 12 = .ok (.if_icmp .ne 15, 3) := by decide +kernel
theorem dX7_digestMounds_15 : decode cX7_digestMounds 15 = .ok (.aload_n 0, 1) := by decide +kernel
theorem dX7_digestMounds_16 : decode cX7_digestMounds 16 = .ok (.iload_n 2, 1) := by decide +kernel
theorem dX7_digestMounds_17 : decode cX7_digestMounds 17 = .ok (.invokevirtual 92, 3) := by decide +kernel
theorem dX7_digestMounds_20 : decode cX7_digestMounds 20 = .ok (.ifCond .eq 7, 3) := by decide +kernel
theorem dX7_digestMounds_23 : decode cX7_digestMounds 23 = .ok (.iload_n 2, 1) := by decide +kernel
theorem dX7_digestMounds_24 : decode cX7_digestMounds 24 = .ok (.goto 4, 3) := by decide +kernel
theorem dX7_digestMounds_27 : decode cX7_digestMounds 27 = .ok (.iload_n 1, 1) := by decide +kernel
theorem dX7_digestMounds_28 : decode cX7_digestMounds 28 = .ok (.istore_n 1, 1) := by decide +kernel
theorem dX7_digestMounds_29 : decode cX7_digestMounds 29 = .ok (.aload_n 0, 1) := by decide +kernel
theorem dX7_digestMounds_30 : decode cX7_digestMounds 30 = .ok (.iload_n 2, 1) := by decide +kernel
theorem dX7_digestMounds_31 : decode cX7_digestMounds 31 = .ok (.invokevirtual 92, 3) := by decide +kernel
theorem dX7_digestMounds_34 : decode cX7_digestMounds 34 = .ok (.ifCond .eq 14, 3) := by decide +kernel
theorem dX7_digestMounds_37 : decode cX7_digestMounds 37 = .ok (.aload_n 0, 1) := by decide +kernel
theorem dX7_digestMounds_38 : decode cX7_digestMounds 38 = .ok (.aload_n 0, 1) := by decide +kernel
theorem dX7_digestMounds_39 : decode cX7_digestMounds 39 = .ok (.iload_n 2, 1) := by decide +kernel
theorem dX7_digestMounds_40 : decode cX7_digestMounds 40 = .ok (.iload_n 1, 1) := by decide +kernel
theorem dX7_digestMounds_41 : decode cX7_digestMounds 41 = .ok (.invokevirtual 254, 3) := by decide +kernel
theorem dX7_digestMounds_44 : decode cX7_digestMounds 44 = .ok (.i2l, 1) := by decide +kernel
theorem dX7_digestMounds_45 : decode cX7_digestMounds 45 = .ok (.invokevirtual 295, 3) := by decide +kernel
theorem dX7_digestMounds_48 : decode cX7_digestMounds 48 = .ok (.iinc 2 1, 3) := by decide +kernel
theorem dX7_digestMounds_51 : decode cX7_digestMounds 51 = .ok (.goto (-47), 3) := by decide +kernel
theorem dX7_digestMounds_54 : decode cX7_digestMounds 54 = .ok (.iconst 0, 1) := by decide +kernel
theorem dX7_digestMounds_55 : decode cX7_digestMounds 55 = .ok (.istore_n 2, 1) := by decide +kernel
theorem dX7_digestMounds_56 : decode cX7_digestMounds 56 = .ok (.iload_n 2, 1) := by decide +kernel
theorem dX7_digestMounds_57 : decode cX7_digestMounds 57 = .ok (.bipush 64, 2) := by decide +kernel
theorem dX7_digestMounds_59 : decode cX7_digestMounds 59 = .ok (.if_icmp .ge 20, 3) := by decide +kernel
theorem dX7_digestMounds_62 : decode cX7_digestMounds 62 = .ok (.aload_n 0, 1) := by decide +kernel
theorem dX7_digestMounds_63 : decode cX7_digestMounds 63 = .ok (.aload_n 0, 1) := by decide +kernel
theorem dX7_digestMounds_64 : decode cX7_digestMounds 64 = .ok (.iload_n 2, 1) := by decide +kernel
theorem dX7_digestMounds_65 : decode cX7_digestMounds 65 = .ok (.iconst 0, 1) := by decide +kernel
theorem dX7_digestMounds_66 : decode cX7_digestMounds 66 = .ok (.invokevirtual 263, 3) := by decide +kernel
theorem dX7_digestMounds_69 : decode cX7_digestMounds 69 = .ok (.i2l, 1) := by decide +kernel
theorem dX7_digestMounds_70 : decode cX7_digestMounds 70 = .ok (.invokevirtual 295, 3) := by decide +kernel
theorem dX7_digestMounds_73 : decode cX7_digestMounds 73 = .ok (.iinc 2 1, 3) := by decide +kernel
theorem dX7_digestMounds_76 : decode cX7_digestMounds 76 = .ok (.goto (-20), 3) := by decide +kernel
theorem dX7_digestMounds_79 : decode cX7_digestMounds 79 = .ok (.return_, 1) := by decide +kernel
theorem lg_wsX7_digest_0 : GoodIn wsX7_digest wsX7_digest_r1 := goodIn_sub (fun _ h => (List.mem_cons_of_mem _ (List.mem_append_left _ (List.mem_append_left _ h)))) (by decide +kernel)
theorem lg_wsX7_digest_1 : GoodIn wsX7_digest wsX7_digest_r2 := goodIn_sub (fun _ h => (List.mem_cons_of_mem _ (List.mem_append_left _ (List.mem_append_right _ (List.mem_append_left _ h))))) (by decide +kernel)
theorem lg_wsX7_digest_2 : GoodIn wsX7_digest wsX7_digest_r3 := goodIn_sub (fun _ h => (List.mem_cons_of_mem _ (List.mem_append_left _ (List.mem_append_right _ (List.mem_append_right _ (List.mem_append_left _ h)))))) (by decide +kernel)
theorem lg_wsX7_digest_3 : GoodIn wsX7_digest wsX7_digest_r4 := goodIn_sub (fun _ h => (List.mem_cons_of_mem _ (List.mem_append_left _ (List.mem_append_right _ (List.mem_append_right _ (List.mem_append_right _ (List.mem_append_left _ h))))))) (by decide +kernel)
theorem lg_wsX7_digest_4 : GoodIn wsX7_digest wsX7_digest_r5 := goodIn_sub (fun _ h => (List.mem_cons_of_mem _ (List.mem_append_left _ (List.mem_append_right _ (List.mem_append_right _ (List.mem_append_right _ (List.mem_append_right _ (List.mem_append_left _ h)))))))) (by decide +kernel)
theorem lg_wsX7_digest_5 : GoodIn wsX7_digest wsX7_digest_r6 := goodIn_sub (fun _ h => (List.mem_cons_of_mem _ (List.mem_append_left _ (List.mem_append_right _ (List.mem_append_right _ (List.mem_append_right _ (List.mem_append_right _ (List.mem_append_right _ (List.mem_append_left _ h))))))))) (by decide +kernel)
theorem lg_wsX7_digest_6 : GoodIn wsX7_digest wsX7_digest_r7 := goodIn_sub (fun _ h => (List.mem_cons_of_mem _ (List.mem_append_left _ (List.mem_append_right _ (List.mem_append_right _ (List.mem_append_right _ (List.mem_append_right _ (List.mem_append_right _ (List.mem_append_right _ (List.mem_append_left _ h)))))))))) (by decide +kernel)
theorem lg_wsX7_digest_7 : GoodIn wsX7_digest wsX7_digest_r8 := goodIn_sub (fun _ h => (List.mem_cons_of_mem _ (List.mem_append_left _ (List.mem_append_right _ (List.mem_append_right _ (List.mem_append_right _ (List.mem_append_right _ (List.mem_append_right _ (List.mem_append_right _ (List.mem_append_right _ (List.mem_append_left _ h))))))))))) (by decide +kernel)
theorem lg_wsX7_digest_8 : GoodIn wsX7_digest wsX7_digest_r9 := goodIn_sub (fun _ h => (List.mem_cons_of_mem _ (List.mem_append_left _ (List.mem_append_right _ (List.mem_append_right _ (List.mem_append_right _ (List.mem_append_right _ (List.mem_append_right _ (List.mem_append_right _ (List.mem_append_right _ (List.mem_append_right _ (List.mem_append_left _ h)))))))))))) (by decide +kernel)
theorem lg_wsX7_digest_9 : GoodIn wsX7_digest wsX7_digest_r10 := goodIn_sub (fun _ h => (List.mem_cons_of_mem _ (List.mem_append_left _ (List.mem_append_right _ (List.mem_append_right _ (List.mem_append_right _ (List.mem_append_right _ (List.mem_append_right _ (List.mem_append_right _ (List.mem_append_right _ (List.mem_append_right _ (List.mem_append_right _ h)))))))))))) (by decide +kernel)
theorem ls_wsX7_digest_0 : GoodIn wsX7_digest wsX70 := goodIn_sub (fun _ h => (List.mem_cons_of_mem _ (List.mem_append_right _ h))) (by decide +kernel)
set_option maxRecDepth 20000 in
theorem ggX7_digest_X7_counted : GoodIn wsX7_digest wsX7_counted := (gi_cons (lg_wsX7_digest_0 _ (List.mem_of_getElem? (i := 9) rfl)) (goodIn_app (goodIn_app (gi_cons (lg_wsX7_digest_0 _ (List.mem_of_getElem? (i := 10) rfl)) (gi_cons (lg_wsX7_digest_0 _ (List.mem_of_getElem? (i := 11) rfl)) (gi_cons (lg_wsX7_digest_0 _ (List.mem_of_getElem? (i := 12) rfl)) (gi_cons (lg_wsX7_digest_0 _ (List.mem_of_getElem? (i := 13) rfl)) (gi_cons (lg_wsX7_digest_0 _ (List.mem_of_getElem? (i := 14) rfl)) (gi_cons (lg_wsX7_digest_0 _ (List.mem_of_getElem? (i := 8) rfl)) (gi_cons (lg_wsX7_digest_0 _ (List.mem_of_getElem? (i := 15) rfl)) (gi_cons (lg_wsX7_digest_0 _ (List.mem_of_getElem? (i := 16) rfl)) (gi_cons (lg_wsX7_digest_0 _ (List.mem_of_getElem? (i := 17) rfl)) (gi_cons (lg_wsX7_digest_0 _ (List.mem_of_getElem? (i := 18) rfl)) (gi_cons (lg_wsX7_digest_0 _ (List.mem_of_getElem? (i := 19) rfl)) (gi_cons (lg_wsX7_digest_0 _ (List.mem_of_getElem? (i := 20) rfl)) (gi_cons (lg_wsX7_digest_0 _ (List.mem_of_getElem? (i := 21) rfl)) (gi_cons (lg_wsX7_digest_0 _ (List.mem_of_getElem? (i := 22) rfl)) (gi_cons (lg_wsX7_digest_0 _ (List.mem_of_getElem? (i := 23) rfl)) (gi_cons (lg_wsX7_digest_1 _ (List.mem_of_getElem? (i := 0) rfl)) (gi_cons (lg_wsX7_digest_1 _ (List.mem_of_getElem? (i := 1) rfl)) (gi_cons (lg_wsX7_digest_1 _ (List.mem_of_getElem? (i := 2) rfl)) (gi_cons (lg_wsX7_digest_1 _ (List.mem_of_getElem? (i := 3) rfl)) (gi_cons (lg_wsX7_digest_1 _ (List.mem_of_getElem? (i := 4) rfl)) (gi_cons (lg_wsX7_digest_1 _ (List.mem_of_getElem? (i := 5) rfl)) (gi_cons (lg_wsX7_digest_1 _ (List.mem_of_getElem? (i := 6) rfl)) (gi_cons (lg_wsX7_digest_1 _ (List.mem_of_getElem? (i := 7) rfl)) (gi_cons (lg_wsX7_digest_1 _ (List.mem_of_getElem? (i := 8) rfl)) gi_nil)))))))))))))))))))))))) (gi_cons (lg_wsX7_digest_1 _ (List.mem_of_getElem? (i := 9) rfl)) (gi_cons (lg_wsX7_digest_1 _ (List.mem_of_getElem? (i := 10) rfl)) (gi_cons (lg_wsX7_digest_1 _ (List.mem_of_getElem? (i := 11) rfl)) (gi_cons (lg_wsX7_digest_1 _ (List.mem_of_getElem? (i := 12) rfl)) (gi_cons (lg_wsX7_digest_1 _ (List.mem_of_getElem? (i := 13) rfl)) (gi_cons (lg_wsX7_digest_1 _ (List.mem_of_getElem? (i := 14) rfl)) (gi_cons (lg_wsX7_digest_1 _ (List.mem_of_getElem? (i := 15) rfl)) (gi_cons (lg_wsX7_digest_1 _ (List.mem_of_getElem? (i := 16) rfl)) (gi_cons (lg_wsX7_digest_1 _ (List.mem_of_getElem? (i := 17) rfl)) (gi_cons (lg_wsX7_digest_1 _ (List.mem_of_getElem? (i := 18) rfl)) (gi_cons (lg_wsX7_digest_1 _ (List.mem_of_getElem? (i := 19) rfl)) (gi_cons (lg_wsX7_digest_1 _ (List.mem_of_getElem? (i := 20) rfl)) (gi_cons (lg_wsX7_digest_1 _ (List.mem_of_getElem? (i := 21) rfl)) (gi_cons (lg_wsX7_digest_1 _ (List.mem_of_getElem? (i := 22) rfl)) (gi_cons (lg_wsX7_digest_1 _ (List.mem_of_getElem? (i := 23) rfl)) (gi_cons (lg_wsX7_digest_2 _ (List.mem_of_getElem? (i := 0) rfl)) (gi_cons (lg_wsX7_digest_2 _ (List.mem_of_getElem? (i := 1) rfl)) (gi_cons (lg_wsX7_digest_2 _ (List.mem_of_getElem? (i := 2) rfl)) (gi_cons (lg_wsX7_digest_2 _ (List.mem_of_getElem? (i := 3) rfl)) (gi_cons (lg_wsX7_digest_2 _ (List.mem_of_getElem? (i := 4) rfl)) (gi_cons (lg_wsX7_digest_2 _ (List.mem_of_getElem? (i := 5) rfl)) (gi_cons (lg_wsX7_digest_2 _ (List.mem_of_getElem? (i := 6) rfl)) (gi_cons (lg_wsX7_digest_2 _ (List.mem_of_getElem? (i := 7) rfl)) (gi_cons (lg_wsX7_digest_2 _ (List.mem_of_getElem? (i := 8) rfl)) gi_nil))))))))))))))))))))))))) ls_wsX7_digest_0))
set_option maxRecDepth 20000 in
theorem gX7_digest_X7_counted : GoodIn wsX7_digest (wsV RX7 251 RX7 yX7_counted wsX7_counted) := goodIn_app (gi_cons (lg_wsX7_digest_0 _ (List.mem_of_getElem? (i := 5) rfl)) (gi_cons (lg_wsX7_digest_0 _ (List.mem_of_getElem? (i := 6) rfl)) (gi_cons (lg_wsX7_digest_0 _ (List.mem_of_getElem? (i := 7) rfl)) (gi_cons (lg_wsX7_digest_0 _ (List.mem_of_getElem? (i := 8) rfl)) gi_nil)))) ggX7_digest_X7_counted
set_option maxRecDepth 20000 in
theorem ggX7_digest_X7_digestOne : GoodIn wsX7_digest wsX7_digestOne := (gi_cons (lg_wsX7_digest_2 _ (List.mem_of_getElem? (i := 12) rfl)) (goodIn_app (gi_cons (lg_wsX7_digest_2 _ (List.mem_of_getElem? (i := 13) rfl)) (gi_cons (lg_wsX7_digest_0 _ (List.mem_of_getElem? (i := 2) rfl)) gi_nil)) ls_wsX7_digest_0))
set_option maxRecDepth 20000 in
theorem gX7_digest_X7_digestOne : GoodIn wsX7_digest (wsV RX7 295 RX7 yX7_digestOne wsX7_digestOne) := goodIn_app (gi_cons (lg_wsX7_digest_2 _ (List.mem_of_getElem? (i := 9) rfl)) (gi_cons (lg_wsX7_digest_2 _ (List.mem_of_getElem? (i := 10) rfl)) (gi_cons (lg_wsX7_digest_2 _ (List.mem_of_getElem? (i := 11) rfl)) (gi_cons (lg_wsX7_digest_0 _ (List.mem_of_getElem? (i := 8) rfl)) gi_nil)))) ggX7_digest_X7_digestOne
set_option maxRecDepth 20000 in
theorem ggX7_digest_X7_digestLawn : GoodIn wsX7_digest wsX7_digestLawn := (gi_cons (lg_wsX7_digest_2 _ (List.mem_of_getElem? (i := 17) rfl)) (goodIn_app (goodIn_app (gi_cons (lg_wsX7_digest_0 _ (List.mem_of_getElem? (i := 10) rfl)) (gi_cons (lg_wsX7_digest_2 _ (List.mem_of_getElem? (i := 18) rfl)) (gi_cons (lg_wsX7_digest_2 _ (List.mem_of_getElem? (i := 19) rfl)) (gi_cons (lg_wsX7_digest_2 _ (List.mem_of_getElem? (i := 20) rfl)) (gi_cons (lg_wsX7_digest_0 _ (List.mem_of_getElem? (i := 8) rfl)) (gi_cons (lg_wsX7_digest_2 _ (List.mem_of_getElem? (i := 21) rfl)) (gi_cons (lg_wsX7_digest_1 _ (List.mem_of_getElem? (i := 0) rfl)) (gi_cons (lg_wsX7_digest_2 _ (List.mem_of_getElem? (i := 22) rfl)) (gi_cons (lg_wsX7_digest_1 _ (List.mem_of_getElem? (i := 1) rfl)) (gi_cons (lg_wsX7_digest_1 _ (List.mem_of_getElem? (i := 2) rfl)) (gi_cons (lg_wsX7_digest_1 _ (List.mem_of_getElem? (i := 3) rfl)) (gi_cons (lg_wsX7_digest_1 _ (List.mem_of_getElem? (i := 4) rfl)) (gi_cons (lg_wsX7_digest_1 _ (List.mem_of_getElem? (i := 5) rfl)) (gi_cons (lg_wsX7_digest_1 _ (List.mem_of_getElem? (i := 6) rfl)) (gi_cons (lg_wsX7_digest_1 _ (List.mem_of_getElem? (i := 7) rfl)) (gi_cons (lg_wsX7_digest_1 _ (List.mem_of_getElem? (i := 8) rfl)) (gi_cons (lg_wsX7_digest_1 _ (List.mem_of_getElem? (i := 9) rfl)) (gi_cons (lg_wsX7_digest_1 _ (List.mem_of_getElem? (i := 10) rfl)) (gi_cons (lg_wsX7_digest_1 _ (List.mem_of_getElem? (i := 11) rfl)) (gi_cons (lg_wsX7_digest_2 _ (List.mem_of_getElem? (i := 23) rfl)) (gi_cons (lg_wsX7_digest_3 _ (List.mem_of_getElem? (i := 0) rfl)) (gi_cons (lg_wsX7_digest_3 _ (List.mem_of_getElem? (i := 1) rfl)) (gi_cons (lg_wsX7_digest_3 _ (List.mem_of_getElem? (i := 2) rfl)) (gi_cons (lg_wsX7_digest_3 _ (List.mem_of_getElem? (i := 3) rfl)) gi_nil)))))))))))))))))))))))) (goodIn_app (gi_cons (lg_wsX7_digest_3 _ (List.mem_of_getElem? (i := 4) rfl)) (gi_cons (lg_wsX7_digest_3 _ (List.mem_of_getElem? (i := 5) rfl)) (gi_cons (lg_wsX7_digest_3 _ (List.mem_of_getElem? (i := 6) rfl)) (gi_cons (lg_wsX7_digest_3 _ (List.mem_of_getElem? (i := 7) rfl)) (gi_cons (lg_wsX7_digest_3 _ (List.mem_of_getElem? (i := 8) rfl)) (gi_cons (lg_wsX7_digest_3 _ (List.mem_of_getElem? (i := 9) rfl)) (gi_cons (lg_wsX7_digest_3 _ (List.mem_of_getElem? (i := 10) rfl)) (gi_cons (lg_wsX7_digest_3 _ (List.mem_of_getElem? (i := 11) rfl)) (gi_cons (lg_wsX7_digest_3 _ (List.mem_of_getElem? (i := 12) rfl)) (gi_cons (lg_wsX7_digest_3 _ (List.mem_of_getElem? (i := 13) rfl)) (gi_cons (lg_wsX7_digest_3 _ (List.mem_of_getElem? (i := 14) rfl)) (gi_cons (lg_wsX7_digest_3 _ (List.mem_of_getElem? (i := 15) rfl)) (gi_cons (lg_wsX7_digest_3 _ (List.mem_of_getElem? (i := 16) rfl)) (gi_cons (lg_wsX7_digest_3 _ (List.mem_of_getElem? (i := 17) rfl)) (gi_cons (lg_wsX7_digest_3 _ (List.mem_of_getElem? (i := 18) rfl)) (gi_cons (lg_wsX7_digest_3 _ (List.mem_of_getElem? (i := 19) rfl)) (gi_cons (lg_wsX7_digest_3 _ (List.mem_of_getElem? (i := 20) rfl)) (gi_cons (lg_wsX7_digest_3 _ (List.mem_of_getElem? (i := 21) rfl)) (gi_cons (lg_wsX7_digest_3 _ (List.mem_of_getElem? (i := 22) rfl)) (gi_cons (lg_wsX7_digest_3 _ (List.mem_of_getElem? (i := 23) rfl)) (gi_cons (lg_wsX7_digest_4 _ (List.mem_of_getElem? (i := 0) rfl)) (gi_cons (lg_wsX7_digest_2 _ (List.mem_of_getElem? (i := 5) rfl)) (gi_cons (lg_wsX7_digest_2 _ (List.mem_of_getElem? (i := 6) rfl)) (gi_cons (lg_wsX7_digest_2 _ (List.mem_of_getElem? (i := 7) rfl)) gi_nil)))))))))))))))))))))))) (goodIn_app (gi_cons (lg_wsX7_digest_2 _ (List.mem_of_getElem? (i := 8) rfl)) (gi_cons (lg_wsX7_digest_4 _ (List.mem_of_getElem? (i := 1) rfl)) (gi_cons (lg_wsX7_digest_4 _ (List.mem_of_getElem? (i := 2) rfl)) (gi_cons (lg_wsX7_digest_4 _ (List.mem_of_getElem? (i := 3) rfl)) (gi_cons (lg_wsX7_digest_4 _ (List.mem_of_getElem? (i := 4) rfl)) (gi_cons (lg_wsX7_digest_4 _ (List.mem_of_getElem? (i := 5) rfl)) (gi_cons (lg_wsX7_digest_4 _ (List.mem_of_getElem? (i := 6) rfl)) (gi_cons (lg_wsX7_digest_4 _ (List.mem_of_getElem? (i := 7) rfl)) (gi_cons (lg_wsX7_digest_4 _ (List.mem_of_getElem? (i := 8) rfl)) (gi_cons (lg_wsX7_digest_2 _ (List.mem_of_getElem? (i := 9) rfl)) (gi_cons (lg_wsX7_digest_2 _ (List.mem_of_getElem? (i := 10) rfl)) (gi_cons (lg_wsX7_digest_2 _ (List.mem_of_getElem? (i := 11) rfl)) (gi_cons (lg_wsX7_digest_2 _ (List.mem_of_getElem? (i := 12) rfl)) (gi_cons (lg_wsX7_digest_2 _ (List.mem_of_getElem? (i := 13) rfl)) (gi_cons (lg_wsX7_digest_0 _ (List.mem_of_getElem? (i := 2) rfl)) (gi_cons (lg_wsX7_digest_4 _ (List.mem_of_getElem? (i := 9) rfl)) (gi_cons (lg_wsX7_digest_4 _ (List.mem_of_getElem? (i := 10) rfl)) (gi_cons (lg_wsX7_digest_4 _ (List.mem_of_getElem? (i := 11) rfl)) (gi_cons (lg_wsX7_digest_4 _ (List.mem_of_getElem? (i := 12) rfl)) (gi_cons (lg_wsX7_digest_0 _ (List.mem_of_getElem? (i := 16) rfl)) (gi_cons (lg_wsX7_digest_0 _ (List.mem_of_getElem? (i := 17) rfl)) (gi_cons (lg_wsX7_digest_0 _ (List.mem_of_getElem? (i := 18) rfl)) (gi_cons (lg_wsX7_digest_0 _ (List.mem_of_getElem? (i := 19) rfl)) (gi_cons (lg_wsX7_digest_4 _ (List.mem_of_getElem? (i := 13) rfl)) gi_nil)))))))))))))))))))))))) (gi_cons (lg_wsX7_digest_4 _ (List.mem_of_getElem? (i := 14) rfl)) (gi_cons (lg_wsX7_digest_4 _ (List.mem_of_getElem? (i := 15) rfl)) (gi_cons (lg_wsX7_digest_4 _ (List.mem_of_getElem? (i := 16) rfl)) (gi_cons (lg_wsX7_digest_4 _ (List.mem_of_getElem? (i := 17) rfl)) (gi_cons (lg_wsX7_digest_4 _ (List.mem_of_getElem? (i := 18) rfl)) (gi_cons (lg_wsX7_digest_4 _ (List.mem_of_getElem? (i := 19) rfl)) (gi_cons (lg_wsX7_digest_4 _ (List.mem_of_getElem? (i := 20) rfl)) (gi_cons (lg_wsX7_digest_4 _ (List.mem_of_getElem? (i := 21) rfl)) (gi_cons (lg_wsX7_digest_4 _ (List.mem_of_getElem? (i := 22) rfl)) (gi_cons (lg_wsX7_digest_4 _ (List.mem_of_getElem? (i := 23) rfl)) (gi_cons (lg_wsX7_digest_5 _ (List.mem_of_getElem? (i := 0) rfl)) gi_nil)))))))))))))) ls_wsX7_digest_0))
set_option maxRecDepth 20000 in
theorem gX7_digest_X7_digestLawn : GoodIn wsX7_digest (wsV RX7 301 RX7 yX7_digestLawn wsX7_digestLawn) := goodIn_app (gi_cons (lg_wsX7_digest_2 _ (List.mem_of_getElem? (i := 14) rfl)) (gi_cons (lg_wsX7_digest_2 _ (List.mem_of_getElem? (i := 15) rfl)) (gi_cons (lg_wsX7_digest_2 _ (List.mem_of_getElem? (i := 16) rfl)) (gi_cons (lg_wsX7_digest_0 _ (List.mem_of_getElem? (i := 8) rfl)) gi_nil)))) ggX7_digest_X7_digestLawn
set_option maxRecDepth 20000 in
theorem ggX7_digest_X7_digestMounds : GoodIn wsX7_digest wsX7_digestMounds := (gi_cons (lg_wsX7_digest_5 _ (List.mem_of_getElem? (i := 4) rfl)) (goodIn_app (goodIn_app (gi_cons (lg_wsX7_digest_2 _ (List.mem_of_getElem? (i := 1) rfl)) (gi_cons (lg_wsX7_digest_2 _ (List.mem_of_getElem? (i := 2) rfl)) (gi_cons (lg_wsX7_digest_2 _ (List.mem_of_getElem? (i := 3) rfl)) (gi_cons (lg_wsX7_digest_0 _ (List.mem_of_getElem? (i := 8) rfl)) (gi_cons (lg_wsX7_digest_2 _ (List.mem_of_getElem? (i := 4) rfl)) (gi_cons (lg_wsX7_digest_0 _ (List.mem_of_getElem? (i := 10) rfl)) (gi_cons (lg_wsX7_digest_5 _ (List.mem_of_getElem? (i := 5) rfl)) (gi_cons (lg_wsX7_digest_5 _ (List.mem_of_getElem? (i := 6) rfl)) (gi_cons (lg_wsX7_digest_5 _ (List.mem_of_getElem? (i := 7) rfl)) (gi_cons (lg_wsX7_digest_5 _ (List.mem_of_getElem? (i := 8) rfl)) (gi_cons (lg_wsX7_digest_1 _ (List.mem_of_getElem? (i := 20) rfl)) (gi_cons (lg_wsX7_digest_1 _ (List.mem_of_getElem? (i := 21) rfl)) (gi_cons (lg_wsX7_digest_1 _ (List.mem_of_getElem? (i := 22) rfl)) (gi_cons (lg_wsX7_digest_1 _ (List.mem_of_getElem? (i := 23) rfl)) (gi_cons (lg_wsX7_digest_2 _ (List.mem_of_getElem? (i := 0) rfl)) (gi_cons (lg_wsX7_digest_1 _ (List.mem_of_getElem? (i := 5) rfl)) (gi_cons (lg_wsX7_digest_1 _ (List.mem_of_getElem? (i := 6) rfl)) (gi_cons (lg_wsX7_digest_1 _ (List.mem_of_getElem? (i := 7) rfl)) (gi_cons (lg_wsX7_digest_1 _ (List.mem_of_getElem? (i := 8) rfl)) (gi_cons (lg_wsX7_digest_2 _ (List.mem_of_getElem? (i := 5) rfl)) (gi_cons (lg_wsX7_digest_2 _ (List.mem_of_getElem? (i := 6) rfl)) (gi_cons (lg_wsX7_digest_2 _ (List.mem_of_getElem? (i := 7) rfl)) (gi_cons (lg_wsX7_digest_2 _ (List.mem_of_getElem? (i := 8) rfl)) (gi_cons (lg_wsX7_digest_2 _ (List.mem_of_getElem? (i := 9) rfl)) gi_nil)))))))))))))))))))))))) (goodIn_app (gi_cons (lg_wsX7_digest_2 _ (List.mem_of_getElem? (i := 10) rfl)) (gi_cons (lg_wsX7_digest_2 _ (List.mem_of_getElem? (i := 11) rfl)) (gi_cons (lg_wsX7_digest_2 _ (List.mem_of_getElem? (i := 12) rfl)) (gi_cons (lg_wsX7_digest_2 _ (List.mem_of_getElem? (i := 13) rfl)) (gi_cons (lg_wsX7_digest_0 _ (List.mem_of_getElem? (i := 2) rfl)) (gi_cons (lg_wsX7_digest_5 _ (List.mem_of_getElem? (i := 9) rfl)) (gi_cons (lg_wsX7_digest_5 _ (List.mem_of_getElem? (i := 10) rfl)) (gi_cons (lg_wsX7_digest_5 _ (List.mem_of_getElem? (i := 11) rfl)) (gi_cons (lg_wsX7_digest_5 _ (List.mem_of_getElem? (i := 12) rfl)) (gi_cons (lg_wsX7_digest_5 _ (List.mem_of_getElem? (i := 13) rfl)) (gi_cons (lg_wsX7_digest_5 _ (List.mem_of_getElem? (i := 14) rfl)) (gi_cons (lg_wsX7_digest_5 _ (List.mem_of_getElem? (i := 15) rfl)) (gi_cons (lg_wsX7_digest_5 _ (List.mem_of_getElem? (i := 16) rfl)) (gi_cons (lg_wsX7_digest_5 _ (List.mem_of_getElem? (i := 17) rfl)) (gi_cons (lg_wsX7_digest_5 _ (List.mem_of_getElem? (i := 18) rfl)) (gi_cons (lg_wsX7_digest_5 _ (List.mem_of_getElem? (i := 19) rfl)) (gi_cons (lg_wsX7_digest_5 _ (List.mem_of_getElem? (i := 20) rfl)) (gi_cons (lg_wsX7_digest_5 _ (List.mem_of_getElem? (i := 21) rfl)) (gi_cons (lg_wsX7_digest_1 _ (List.mem_of_getElem? (i := 9) rfl)) (gi_cons (lg_wsX7_digest_1 _ (List.mem_of_getElem? (i := 10) rfl)) (gi_cons (lg_wsX7_digest_1 _ (List.mem_of_getElem? (i := 11) rfl)) (gi_cons (lg_wsX7_digest_5 _ (List.mem_of_getElem? (i := 22) rfl)) (gi_cons (lg_wsX7_digest_5 _ (List.mem_of_getElem? (i := 23) rfl)) (gi_cons (lg_wsX7_digest_6 _ (List.mem_of_getElem? (i := 0) rfl)) gi_nil)))))))))))))))))))))))) (goodIn_app (gi_cons (lg_wsX7_digest_6 _ (List.mem_of_getElem? (i := 1) rfl)) (gi_cons (lg_wsX7_digest_6 _ (List.mem_of_getElem? (i := 2) rfl)) (gi_cons (lg_wsX7_digest_6 _ (List.mem_of_getElem? (i := 3) rfl)) (gi_cons (lg_wsX7_digest_6 _ (List.mem_of_getElem? (i := 4) rfl)) (gi_cons (lg_wsX7_digest_6 _ (List.mem_of_getElem? (i := 5) rfl)) (gi_cons (lg_wsX7_digest_4 _ (List.mem_of_getElem? (i := 1) rfl)) (gi_cons (lg_wsX7_digest_4 _ (List.mem_of_getElem? (i := 2) rfl)) (gi_cons (lg_wsX7_digest_4 _ (List.mem_of_getElem? (i := 3) rfl)) (gi_cons (lg_wsX7_digest_4 _ (List.mem_of_getElem? (i := 4) rfl)) (gi_cons (lg_wsX7_digest_6 _ (List.mem_of_getElem? (i := 6) rfl)) (gi_cons (lg_wsX7_digest_6 _ (List.mem_of_getElem? (i := 7) rfl)) (gi_cons (lg_wsX7_digest_6 _ (List.mem_of_getElem? (i := 8) rfl)) (gi_cons (lg_wsX7_digest_6 _ (List.mem_of_getElem? (i := 9) rfl)) (gi_cons (lg_wsX7_digest_6 _ (List.mem_of_getElem? (i := 10) rfl)) (gi_cons (lg_wsX7_digest_6 _ (List.mem_of_getElem? (i := 11) rfl)) (gi_cons (lg_wsX7_digest_6 _ (List.mem_of_getElem? (i := 12) rfl)) (gi_cons (lg_wsX7_digest_6 _ (List.mem_of_getElem? (i := 13) rfl)) (gi_cons (lg_wsX7_digest_6 _ (List.mem_of_getElem? (i := 14) rfl)) (gi_cons (lg_wsX7_digest_6 _ (List.mem_of_getElem? (i := 15) rfl)) (gi_cons (lg_wsX7_digest_6 _ (List.mem_of_getElem? (i := 16) rfl)) (gi_cons (lg_wsX7_digest_6 _ (List.mem_of_getElem? (i := 17) rfl)) (gi_cons (lg_wsX7_digest_6 _ (List.mem_of_getElem? (i := 18) rfl)) (gi_cons (lg_wsX7_digest_6 _ (List.mem_of_getElem? (i := 19) rfl)) (gi_cons (lg_wsX7_digest_6 _ (List.mem_of_getElem? (i := 20) rfl)) gi_nil)))))))))))))))))))))))) (gi_cons (lg_wsX7_digest_6 _ (List.mem_of_getElem? (i := 21) rfl)) (gi_cons (lg_wsX7_digest_6 _ (List.mem_of_getElem? (i := 22) rfl)) (gi_cons (lg_wsX7_digest_6 _ (List.mem_of_getElem? (i := 23) rfl)) (gi_cons (lg_wsX7_digest_7 _ (List.mem_of_getElem? (i := 0) rfl)) (gi_cons (lg_wsX7_digest_7 _ (List.mem_of_getElem? (i := 1) rfl)) (gi_cons (lg_wsX7_digest_7 _ (List.mem_of_getElem? (i := 2) rfl)) (gi_cons (lg_wsX7_digest_7 _ (List.mem_of_getElem? (i := 3) rfl)) (gi_cons (lg_wsX7_digest_7 _ (List.mem_of_getElem? (i := 4) rfl)) (gi_cons (lg_wsX7_digest_7 _ (List.mem_of_getElem? (i := 5) rfl)) (gi_cons (lg_wsX7_digest_0 _ (List.mem_of_getElem? (i := 20) rfl)) (gi_cons (lg_wsX7_digest_0 _ (List.mem_of_getElem? (i := 21) rfl)) (gi_cons (lg_wsX7_digest_0 _ (List.mem_of_getElem? (i := 22) rfl)) (gi_cons (lg_wsX7_digest_0 _ (List.mem_of_getElem? (i := 23) rfl)) (gi_cons (lg_wsX7_digest_1 _ (List.mem_of_getElem? (i := 0) rfl)) (gi_cons (lg_wsX7_digest_1 _ (List.mem_of_getElem? (i := 1) rfl)) (gi_cons (lg_wsX7_digest_1 _ (List.mem_of_getElem? (i := 2) rfl)) (gi_cons (lg_wsX7_digest_1 _ (List.mem_of_getElem? (i := 3) rfl)) (gi_cons (lg_wsX7_digest_1 _ (List.mem_of_getElem? (i := 4) rfl)) (gi_cons (lg_wsX7_digest_7 _ (List.mem_of_getElem? (i := 6) rfl)) (gi_cons (lg_wsX7_digest_7 _ (List.mem_of_getElem? (i := 7) rfl)) (gi_cons (lg_wsX7_digest_7 _ (List.mem_of_getElem? (i := 8) rfl)) (gi_cons (lg_wsX7_digest_7 _ (List.mem_of_getElem? (i := 9) rfl)) gi_nil))))))))))))))))))))))))) ls_wsX7_digest_0))
set_option maxRecDepth 20000 in
theorem gX7_digest_X7_digestMounds : GoodIn wsX7_digest (wsV RX7 304 RX7 yX7_digestMounds wsX7_digestMounds) := goodIn_app (gi_cons (lg_wsX7_digest_5 _ (List.mem_of_getElem? (i := 1) rfl)) (gi_cons (lg_wsX7_digest_5 _ (List.mem_of_getElem? (i := 2) rfl)) (gi_cons (lg_wsX7_digest_5 _ (List.mem_of_getElem? (i := 3) rfl)) (gi_cons (lg_wsX7_digest_0 _ (List.mem_of_getElem? (i := 8) rfl)) gi_nil)))) ggX7_digest_X7_digestMounds
set_option maxRecDepth 20000 in
theorem ggX7_digest_X7_best : GoodIn wsX7_digest wsX7_best := (gi_cons (lg_wsX7_digest_7 _ (List.mem_of_getElem? (i := 13) rfl)) (goodIn_app (gi_cons (lg_wsX7_digest_0 _ (List.mem_of_getElem? (i := 10) rfl)) (gi_cons (lg_wsX7_digest_3 _ (List.mem_of_getElem? (i := 21) rfl)) (gi_cons (lg_wsX7_digest_3 _ (List.mem_of_getElem? (i := 22) rfl)) (gi_cons (lg_wsX7_digest_3 _ (List.mem_of_getElem? (i := 23) rfl)) (gi_cons (lg_wsX7_digest_0 _ (List.mem_of_getElem? (i := 8) rfl)) (gi_cons (lg_wsX7_digest_4 _ (List.mem_of_getElem? (i := 0) rfl)) (gi_cons (lg_wsX7_digest_2 _ (List.mem_of_getElem? (i := 5) rfl)) (gi_cons (lg_wsX7_digest_2 _ (List.mem_of_getElem? (i := 6) rfl)) (gi_cons (lg_wsX7_digest_2 _ (List.mem_of_getElem? (i := 7) rfl)) (gi_cons (lg_wsX7_digest_2 _ (List.mem_of_getElem? (i := 8) rfl)) (gi_cons (lg_wsX7_digest_4 _ (List.mem_of_getElem? (i := 1) rfl)) (gi_cons (lg_wsX7_digest_4 _ (List.mem_of_getElem? (i := 2) rfl)) (gi_cons (lg_wsX7_digest_4 _ (List.mem_of_getElem? (i := 3) rfl)) (gi_cons (lg_wsX7_digest_4 _ (List.mem_of_getElem? (i := 4) rfl)) (gi_cons (lg_wsX7_digest_1 _ (List.mem_of_getElem? (i := 5) rfl)) (gi_cons (lg_wsX7_digest_1 _ (List.mem_of_getElem? (i := 6) rfl)) (gi_cons (lg_wsX7_digest_1 _ (List.mem_of_getElem? (i := 7) rfl)) (gi_cons (lg_wsX7_digest_1 _ (List.mem_of_getElem? (i := 8) rfl)) gi_nil)))))))))))))))))) ls_wsX7_digest_0))
set_option maxRecDepth 20000 in
theorem gX7_digest_X7_best : GoodIn wsX7_digest (wsV RX7 266 RX7 yX7_best wsX7_best) := goodIn_app (gi_cons (lg_wsX7_digest_7 _ (List.mem_of_getElem? (i := 10) rfl)) (gi_cons (lg_wsX7_digest_7 _ (List.mem_of_getElem? (i := 11) rfl)) (gi_cons (lg_wsX7_digest_7 _ (List.mem_of_getElem? (i := 12) rfl)) (gi_cons (lg_wsX7_digest_0 _ (List.mem_of_getElem? (i := 8) rfl)) gi_nil)))) ggX7_digest_X7_best
set_option maxRecDepth 20000 in
theorem ggX7_digest_X7_passed : GoodIn wsX7_digest wsX7_passed := (gi_cons (lg_wsX7_digest_7 _ (List.mem_of_getElem? (i := 17) rfl)) (goodIn_app (goodIn_app (gi_cons (lg_wsX7_digest_0 _ (List.mem_of_getElem? (i := 10) rfl)) (gi_cons (lg_wsX7_digest_5 _ (List.mem_of_getElem? (i := 13) rfl)) (gi_cons (lg_wsX7_digest_5 _ (List.mem_of_getElem? (i := 14) rfl)) (gi_cons (lg_wsX7_digest_5 _ (List.mem_of_getElem? (i := 15) rfl)) (gi_cons (lg_wsX7_digest_0 _ (List.mem_of_getElem? (i := 8) rfl)) (gi_cons (lg_wsX7_digest_5 _ (List.mem_of_getElem? (i := 16) rfl)) (gi_cons (lg_wsX7_digest_5 _ (List.mem_of_getElem? (i := 17) rfl)) (gi_cons (lg_wsX7_digest_7 _ (List.mem_of_getElem? (i := 18) rfl)) (gi_cons (lg_wsX7_digest_7 _ (List.mem_of_getElem? (i := 19) rfl)) (gi_cons (lg_wsX7_digest_7 _ (List.mem_of_getElem? (i := 20) rfl)) (gi_cons (lg_wsX7_digest_7 _ (List.mem_of_getElem? (i := 21) rfl)) (gi_cons (lg_wsX7_digest_7 _ (List.mem_of_getElem? (i := 22) rfl)) (gi_cons (lg_wsX7_digest_7 _ (List.mem_of_getElem? (i := 23) rfl)) (gi_cons (lg_wsX7_digest_8 _ (List.mem_of_getElem? (i := 0) rfl)) (gi_cons (lg_wsX7_digest_8 _ (List.mem_of_getElem? (i := 1) rfl)) (gi_cons (lg_wsX7_digest_8 _ (List.mem_of_getElem? (i := 2) rfl)) (gi_cons (lg_wsX7_digest_8 _ (List.mem_of_getElem? (i := 3) rfl)) (gi_cons (lg_wsX7_digest_8 _ (List.mem_of_getElem? (i := 4) rfl)) (gi_cons (lg_wsX7_digest_8 _ (List.mem_of_getElem? (i := 5) rfl)) (gi_cons (lg_wsX7_digest_1 _ (List.mem_of_getElem? (i := 9) rfl)) (gi_cons (lg_wsX7_digest_1 _ (List.mem_of_getElem? (i := 10) rfl)) (gi_cons (lg_wsX7_digest_1 _ (List.mem_of_getElem? (i := 11) rfl)) (gi_cons (lg_wsX7_digest_8 _ (List.mem_of_getElem? (i := 6) rfl)) (gi_cons (lg_wsX7_digest_8 _ (List.mem_of_getElem? (i := 7) rfl)) gi_nil)))))))))))))))))))))))) (goodIn_app (gi_cons (lg_wsX7_digest_8 _ (List.mem_of_getElem? (i := 8) rfl)) (gi_cons (lg_wsX7_digest_8 _ (List.mem_of_getElem? (i := 9) rfl)) (gi_cons (lg_wsX7_digest_8 _ (List.mem_of_getElem? (i := 10) rfl)) (gi_cons (lg_wsX7_digest_8 _ (List.mem_of_getElem? (i := 11) rfl)) (gi_cons (lg_wsX7_digest_3 _ (List.mem_of_getElem? (i := 6) rfl)) (gi_cons (lg_wsX7_digest_3 _ (List.mem_of_getElem? (i := 7) rfl)) (gi_cons (lg_wsX7_digest_3 _ (List.mem_of_getElem? (i := 8) rfl)) (gi_cons (lg_wsX7_digest_8 _ (List.mem_of_getElem? (i := 12) rfl)) (gi_cons (lg_wsX7_digest_8 _ (List.mem_of_getElem? (i := 13) rfl)) (gi_cons (lg_wsX7_digest_8 _ (List.mem_of_getElem? (i := 14) rfl)) (gi_cons (lg_wsX7_digest_8 _ (List.mem_of_getElem? (i := 15) rfl)) (gi_cons (lg_wsX7_digest_8 _ (List.mem_of_getElem? (i := 16) rfl)) (gi_cons (lg_wsX7_digest_8 _ (List.mem_of_getElem? (i := 17) rfl)) (gi_cons (lg_wsX7_digest_8 _ (List.mem_of_getElem? (i := 18) rfl)) (gi_cons (lg_wsX7_digest_8 _ (List.mem_of_getElem? (i := 19) rfl)) (gi_cons (lg_wsX7_digest_8 _ (List.mem_of_getElem? (i := 20) rfl)) (gi_cons (lg_wsX7_digest_8 _ (List.mem_of_getElem? (i := 21) rfl)) (gi_cons (lg_wsX7_digest_8 _ (List.mem_of_getElem? (i := 22) rfl)) (gi_cons (lg_wsX7_digest_8 _ (List.mem_of_getElem? (i := 23) rfl)) (gi_cons (lg_wsX7_digest_5 _ (List.mem_of_getElem? (i := 22) rfl)) (gi_cons (lg_wsX7_digest_5 _ (List.mem_of_getElem? (i := 23) rfl)) (gi_cons (lg_wsX7_digest_6 _ (List.mem_of_getElem? (i := 0) rfl)) (gi_cons (lg_wsX7_digest_6 _ (List.mem_of_getElem? (i := 1) rfl)) (gi_cons (lg_wsX7_digest_2 _ (List.mem_of_getElem? (i := 1) rfl)) gi_nil)))))))))))))))))))))))) (goodIn_app (gi_cons (lg_wsX7_digest_2 _ (List.mem_of_getElem? (i := 2) rfl)) (gi_cons (lg_wsX7_digest_2 _ (List.mem_of_getElem? (i := 3) rfl)) (gi_cons (lg_wsX7_digest_2 _ (List.mem_of_getElem? (i := 4) rfl)) (gi_cons (lg_wsX7_digest_9 _ (List.mem_of_getElem? (i := 0) rfl)) (gi_cons (lg_wsX7_digest_9 _ (List.mem_of_getElem? (i := 1) rfl)) (gi_cons (lg_wsX7_digest_9 _ (List.mem_of_getElem? (i := 2) rfl)) (gi_cons (lg_wsX7_digest_9 _ (List.mem_of_getElem? (i := 3) rfl)) (gi_cons (lg_wsX7_digest_6 _ (List.mem_of_getElem? (i := 10) rfl)) (gi_cons (lg_wsX7_digest_6 _ (List.mem_of_getElem? (i := 11) rfl)) (gi_cons (lg_wsX7_digest_6 _ (List.mem_of_getElem? (i := 12) rfl)) (gi_cons (lg_wsX7_digest_6 _ (List.mem_of_getElem? (i := 13) rfl)) (gi_cons (lg_wsX7_digest_6 _ (List.mem_of_getElem? (i := 22) rfl)) (gi_cons (lg_wsX7_digest_6 _ (List.mem_of_getElem? (i := 23) rfl)) (gi_cons (lg_wsX7_digest_7 _ (List.mem_of_getElem? (i := 0) rfl)) (gi_cons (lg_wsX7_digest_7 _ (List.mem_of_getElem? (i := 1) rfl)) (gi_cons (lg_wsX7_digest_7 _ (List.mem_of_getElem? (i := 2) rfl)) (gi_cons (lg_wsX7_digest_7 _ (List.mem_of_getElem? (i := 3) rfl)) (gi_cons (lg_wsX7_digest_7 _ (List.mem_of_getElem? (i := 4) rfl)) (gi_cons (lg_wsX7_digest_7 _ (List.mem_of_getElem? (i := 5) rfl)) (gi_cons (lg_wsX7_digest_6 _ (List.mem_of_getElem? (i := 14) rfl)) (gi_cons (lg_wsX7_digest_6 _ (List.mem_of_getElem? (i := 15) rfl)) (gi_cons (lg_wsX7_digest_6 _ (List.mem_of_getElem? (i := 16) rfl)) (gi_cons (lg_wsX7_digest_6 _ (List.mem_of_getElem? (i := 17) rfl)) (gi_cons (lg_wsX7_digest_6 _ (List.mem_of_getElem? (i := 18) rfl)) gi_nil)))))))))))))))))))))))) (goodIn_app (gi_cons (lg_wsX7_digest_6 _ (List.mem_of_getElem? (i := 19) rfl)) (gi_cons (lg_wsX7_digest_6 _ (List.mem_of_getElem? (i := 20) rfl)) (gi_cons (lg_wsX7_digest_6 _ (List.mem_of_getElem? (i := 21) rfl)) (gi_cons (lg_wsX7_digest_2 _ (List.mem_of_getElem? (i := 5) rfl)) (gi_cons (lg_wsX7_digest_2 _ (List.mem_of_getElem? (i := 6) rfl)) (gi_cons (lg_wsX7_digest_2 _ (List.mem_of_getElem? (i := 7) rfl)) (gi_cons (lg_wsX7_digest_2 _ (List.mem_of_getElem? (i := 8) rfl)) (gi_cons (lg_wsX7_digest_4 _ (List.mem_of_getElem? (i := 1) rfl)) (gi_cons (lg_wsX7_digest_4 _ (List.mem_of_getElem? (i := 2) rfl)) (gi_cons (lg_wsX7_digest_4 _ (List.mem_of_getElem? (i := 3) rfl)) (gi_cons (lg_wsX7_digest_4 _ (List.mem_of_getElem? (i := 4) rfl)) (gi_cons (lg_wsX7_digest_1 _ (List.mem_of_getElem? (i := 5) rfl)) (gi_cons (lg_wsX7_digest_1 _ (List.mem_of_getElem? (i := 6) rfl)) (gi_cons (lg_wsX7_digest_1 _ (List.mem_of_getElem? (i := 7) rfl)) (gi_cons (lg_wsX7_digest_1 _ (List.mem_of_getElem? (i := 8) rfl)) (gi_cons (lg_wsX7_digest_6 _ (List.mem_of_getElem? (i := 6) rfl)) (gi_cons (lg_wsX7_digest_6 _ (List.mem_of_getElem? (i := 7) rfl)) (gi_cons (lg_wsX7_digest_6 _ (List.mem_of_getElem? (i := 8) rfl)) (gi_cons (lg_wsX7_digest_6 _ (List.mem_of_getElem? (i := 9) rfl)) (gi_cons (lg_wsX7_digest_0 _ (List.mem_of_getElem? (i := 16) rfl)) (gi_cons (lg_wsX7_digest_0 _ (List.mem_of_getElem? (i := 17) rfl)) (gi_cons (lg_wsX7_digest_0 _ (List.mem_of_getElem? (i := 18) rfl)) (gi_cons (lg_wsX7_digest_0 _ (List.mem_of_getElem? (i := 19) rfl)) (gi_cons (lg_wsX7_digest_7 _ (List.mem_of_getElem? (i := 6) rfl)) gi_nil)))))))))))))))))))))))) (gi_cons (lg_wsX7_digest_7 _ (List.mem_of_getElem? (i := 7) rfl)) (gi_cons (lg_wsX7_digest_7 _ (List.mem_of_getElem? (i := 8) rfl)) (gi_cons (lg_wsX7_digest_7 _ (List.mem_of_getElem? (i := 9) rfl)) gi_nil))))))) ls_wsX7_digest_0))
set_option maxRecDepth 20000 in
theorem gX7_digest_X7_passed : GoodIn wsX7_digest (wsV RX7 269 RX7 yX7_passed wsX7_passed) := goodIn_app (gi_cons (lg_wsX7_digest_7 _ (List.mem_of_getElem? (i := 14) rfl)) (gi_cons (lg_wsX7_digest_7 _ (List.mem_of_getElem? (i := 15) rfl)) (gi_cons (lg_wsX7_digest_7 _ (List.mem_of_getElem? (i := 16) rfl)) (gi_cons (lg_wsX7_digest_0 _ (List.mem_of_getElem? (i := 8) rfl)) gi_nil)))) ggX7_digest_X7_passed
set_option maxRecDepth 20000 in
theorem ggX7_digest_X7_whenMound : GoodIn wsX7_digest wsX7_whenMound := (gi_cons (lg_wsX7_digest_9 _ (List.mem_of_getElem? (i := 7) rfl)) (goodIn_app (goodIn_app (gi_cons (lg_wsX7_digest_5 _ (List.mem_of_getElem? (i := 13) rfl)) (gi_cons (lg_wsX7_digest_5 _ (List.mem_of_getElem? (i := 14) rfl)) (gi_cons (lg_wsX7_digest_5 _ (List.mem_of_getElem? (i := 15) rfl)) (gi_cons (lg_wsX7_digest_0 _ (List.mem_of_getElem? (i := 8) rfl)) (gi_cons (lg_wsX7_digest_5 _ (List.mem_of_getElem? (i := 16) rfl)) (gi_cons (lg_wsX7_digest_5 _ (List.mem_of_getElem? (i := 17) rfl)) (gi_cons (lg_wsX7_digest_0 _ (List.mem_of_getElem? (i := 10) rfl)) (gi_cons (lg_wsX7_digest_7 _ (List.mem_of_getElem? (i := 18) rfl)) (gi_cons (lg_wsX7_digest_7 _ (List.mem_of_getElem? (i := 19) rfl)) (gi_cons (lg_wsX7_digest_7 _ (List.mem_of_getElem? (i := 20) rfl)) (gi_cons (lg_wsX7_digest_7 _ (List.mem_of_getElem? (i := 21) rfl)) (gi_cons (lg_wsX7_digest_7 _ (List.mem_of_getElem? (i := 22) rfl)) (gi_cons (lg_wsX7_digest_7 _ (List.mem_of_getElem? (i := 23) rfl)) (gi_cons (lg_wsX7_digest_8 _ (List.mem_of_getElem? (i := 0) rfl)) (gi_cons (lg_wsX7_digest_8 _ (List.mem_of_getElem? (i := 1) rfl)) (gi_cons (lg_wsX7_digest_8 _ (List.mem_of_getElem? (i := 2) rfl)) (gi_cons (lg_wsX7_digest_8 _ (List.mem_of_getElem? (i := 3) rfl)) (gi_cons (lg_wsX7_digest_8 _ (List.mem_of_getElem? (i := 4) rfl)) (gi_cons (lg_wsX7_digest_8 _ (List.mem_of_getElem? (i := 5) rfl)) (gi_cons (lg_wsX7_digest_1 _ (List.mem_of_getElem? (i := 9) rfl)) (gi_cons (lg_wsX7_digest_1 _ (List.mem_of_getElem? (i := 10) rfl)) (gi_cons (lg_wsX7_digest_1 _ (List.mem_of_getElem? (i := 11) rfl)) (gi_cons (lg_wsX7_digest_8 _ (List.mem_of_getElem? (i := 6) rfl)) (gi_cons (lg_wsX7_digest_8 _ (List.mem_of_getElem? (i := 7) rfl)) gi_nil)))))))))))))))))))))))) (goodIn_app (gi_cons (lg_wsX7_digest_8 _ (List.mem_of_getElem? (i := 8) rfl)) (gi_cons (lg_wsX7_digest_8 _ (List.mem_of_getElem? (i := 9) rfl)) (gi_cons (lg_wsX7_digest_8 _ (List.mem_of_getElem? (i := 10) rfl)) (gi_cons (lg_wsX7_digest_8 _ (List.mem_of_getElem? (i := 11) rfl)) (gi_cons (lg_wsX7_digest_3 _ (List.mem_of_getElem? (i := 6) rfl)) (gi_cons (lg_wsX7_digest_3 _ (List.mem_of_getElem? (i := 7) rfl)) (gi_cons (lg_wsX7_digest_3 _ (List.mem_of_getElem? (i := 8) rfl)) (gi_cons (lg_wsX7_digest_8 _ (List.mem_of_getElem? (i := 12) rfl)) (gi_cons (lg_wsX7_digest_8 _ (List.mem_of_getElem? (i := 13) rfl)) (gi_cons (lg_wsX7_digest_8 _ (List.mem_of_getElem? (i := 14) rfl)) (gi_cons (lg_wsX7_digest_8 _ (List.mem_of_getElem? (i := 15) rfl)) (gi_cons (lg_wsX7_digest_8 _ (List.mem_of_getElem? (i := 16) rfl)) (gi_cons (lg_wsX7_digest_8 _ (List.mem_of_getElem? (i := 17) rfl)) (gi_cons (lg_wsX7_digest_8 _ (List.mem_of_getElem? (i := 18) rfl)) (gi_cons (lg_wsX7_digest_8 _ (List.mem_of_getElem? (i := 19) rfl)) (gi_cons (lg_wsX7_digest_8 _ (List.mem_of_getElem? (i := 20) rfl)) (gi_cons (lg_wsX7_digest_8 _ (List.mem_of_getElem? (i := 21) rfl)) (gi_cons (lg_wsX7_digest_8 _ (List.mem_of_getElem? (i := 22) rfl)) (gi_cons (lg_wsX7_digest_8 _ (List.mem_of_getElem? (i := 23) rfl)) (gi_cons (lg_wsX7_digest_5 _ (List.mem_of_getElem? (i := 22) rfl)) (gi_cons (lg_wsX7_digest_5 _ (List.mem_of_getElem? (i := 23) rfl)) (gi_cons (lg_wsX7_digest_6 _ (List.mem_of_getElem? (i := 0) rfl)) (gi_cons (lg_wsX7_digest_6 _ (List.mem_of_getElem? (i := 1) rfl)) (gi_cons (lg_wsX7_digest_2 _ (List.mem_of_getElem? (i := 1) rfl)) gi_nil)))))))))))))))))))))))) (goodIn_app (gi_cons (lg_wsX7_digest_2 _ (List.mem_of_getElem? (i := 2) rfl)) (gi_cons (lg_wsX7_digest_2 _ (List.mem_of_getElem? (i := 3) rfl)) (gi_cons (lg_wsX7_digest_2 _ (List.mem_of_getElem? (i := 4) rfl)) (gi_cons (lg_wsX7_digest_9 _ (List.mem_of_getElem? (i := 0) rfl)) (gi_cons (lg_wsX7_digest_9 _ (List.mem_of_getElem? (i := 1) rfl)) (gi_cons (lg_wsX7_digest_9 _ (List.mem_of_getElem? (i := 2) rfl)) (gi_cons (lg_wsX7_digest_9 _ (List.mem_of_getElem? (i := 3) rfl)) (gi_cons (lg_wsX7_digest_6 _ (List.mem_of_getElem? (i := 10) rfl)) (gi_cons (lg_wsX7_digest_6 _ (List.mem_of_getElem? (i := 11) rfl)) (gi_cons (lg_wsX7_digest_6 _ (List.mem_of_getElem? (i := 12) rfl)) (gi_cons (lg_wsX7_digest_6 _ (List.mem_of_getElem? (i := 13) rfl)) (gi_cons (lg_wsX7_digest_6 _ (List.mem_of_getElem? (i := 22) rfl)) (gi_cons (lg_wsX7_digest_6 _ (List.mem_of_getElem? (i := 23) rfl)) (gi_cons (lg_wsX7_digest_7 _ (List.mem_of_getElem? (i := 0) rfl)) (gi_cons (lg_wsX7_digest_7 _ (List.mem_of_getElem? (i := 1) rfl)) (gi_cons (lg_wsX7_digest_7 _ (List.mem_of_getElem? (i := 2) rfl)) (gi_cons (lg_wsX7_digest_7 _ (List.mem_of_getElem? (i := 3) rfl)) (gi_cons (lg_wsX7_digest_7 _ (List.mem_of_getElem? (i := 4) rfl)) (gi_cons (lg_wsX7_digest_7 _ (List.mem_of_getElem? (i := 5) rfl)) (gi_cons (lg_wsX7_digest_6 _ (List.mem_of_getElem? (i := 14) rfl)) (gi_cons (lg_wsX7_digest_6 _ (List.mem_of_getElem? (i := 15) rfl)) (gi_cons (lg_wsX7_digest_6 _ (List.mem_of_getElem? (i := 16) rfl)) (gi_cons (lg_wsX7_digest_6 _ (List.mem_of_getElem? (i := 17) rfl)) (gi_cons (lg_wsX7_digest_6 _ (List.mem_of_getElem? (i := 18) rfl)) gi_nil)))))))))))))))))))))))) (gi_cons (lg_wsX7_digest_6 _ (List.mem_of_getElem? (i := 19) rfl)) (gi_cons (lg_wsX7_digest_6 _ (List.mem_of_getElem? (i := 20) rfl)) (gi_cons (lg_wsX7_digest_6 _ (List.mem_of_getElem? (i := 21) rfl)) (gi_cons (lg_wsX7_digest_2 _ (List.mem_of_getElem? (i := 5) rfl)) (gi_cons (lg_wsX7_digest_2 _ (List.mem_of_getElem? (i := 6) rfl)) (gi_cons (lg_wsX7_digest_2 _ (List.mem_of_getElem? (i := 7) rfl)) (gi_cons (lg_wsX7_digest_2 _ (List.mem_of_getElem? (i := 8) rfl)) (gi_cons (lg_wsX7_digest_4 _ (List.mem_of_getElem? (i := 1) rfl)) (gi_cons (lg_wsX7_digest_4 _ (List.mem_of_getElem? (i := 2) rfl)) (gi_cons (lg_wsX7_digest_4 _ (List.mem_of_getElem? (i := 3) rfl)) (gi_cons (lg_wsX7_digest_4 _ (List.mem_of_getElem? (i := 4) rfl)) (gi_cons (lg_wsX7_digest_1 _ (List.mem_of_getElem? (i := 5) rfl)) (gi_cons (lg_wsX7_digest_1 _ (List.mem_of_getElem? (i := 6) rfl)) (gi_cons (lg_wsX7_digest_1 _ (List.mem_of_getElem? (i := 7) rfl)) (gi_cons (lg_wsX7_digest_1 _ (List.mem_of_getElem? (i := 8) rfl)) (gi_cons (lg_wsX7_digest_6 _ (List.mem_of_getElem? (i := 6) rfl)) (gi_cons (lg_wsX7_digest_6 _ (List.mem_of_getElem? (i := 7) rfl)) (gi_cons (lg_wsX7_digest_6 _ (List.mem_of_getElem? (i := 8) rfl)) (gi_cons (lg_wsX7_digest_6 _ (List.mem_of_getElem? (i := 9) rfl)) (gi_cons (lg_wsX7_digest_7 _ (List.mem_of_getElem? (i := 6) rfl)) (gi_cons (lg_wsX7_digest_7 _ (List.mem_of_getElem? (i := 7) rfl)) (gi_cons (lg_wsX7_digest_7 _ (List.mem_of_getElem? (i := 8) rfl)) (gi_cons (lg_wsX7_digest_7 _ (List.mem_of_getElem? (i := 9) rfl)) gi_nil)))))))))))))))))))))))))) ls_wsX7_digest_0))
set_option maxRecDepth 20000 in
theorem gX7_digest_X7_whenMound : GoodIn wsX7_digest (wsV RX7 272 RX7 yX7_whenMound wsX7_whenMound) := goodIn_app (gi_cons (lg_wsX7_digest_9 _ (List.mem_of_getElem? (i := 4) rfl)) (gi_cons (lg_wsX7_digest_9 _ (List.mem_of_getElem? (i := 5) rfl)) (gi_cons (lg_wsX7_digest_9 _ (List.mem_of_getElem? (i := 6) rfl)) (gi_cons (lg_wsX7_digest_0 _ (List.mem_of_getElem? (i := 8) rfl)) gi_nil)))) ggX7_digest_X7_whenMound
set_option maxRecDepth 20000 in
theorem ggX7_digest_X7_share : GoodIn wsX7_digest wsX7_share := (gi_cons (lg_wsX7_digest_9 _ (List.mem_of_getElem? (i := 11) rfl)) (goodIn_app (gi_cons (lg_wsX7_digest_9 _ (List.mem_of_getElem? (i := 12) rfl)) (gi_cons (lg_wsX7_digest_0 _ (List.mem_of_getElem? (i := 20) rfl)) (gi_cons (lg_wsX7_digest_0 _ (List.mem_of_getElem? (i := 21) rfl)) (gi_cons (lg_wsX7_digest_0 _ (List.mem_of_getElem? (i := 22) rfl)) (gi_cons (lg_wsX7_digest_0 _ (List.mem_of_getElem? (i := 8) rfl)) (gi_cons (lg_wsX7_digest_0 _ (List.mem_of_getElem? (i := 23) rfl)) (gi_cons (lg_wsX7_digest_1 _ (List.mem_of_getElem? (i := 0) rfl)) (gi_cons (lg_wsX7_digest_1 _ (List.mem_of_getElem? (i := 1) rfl)) (gi_cons (lg_wsX7_digest_1 _ (List.mem_of_getElem? (i := 2) rfl)) (gi_cons (lg_wsX7_digest_1 _ (List.mem_of_getElem? (i := 3) rfl)) (gi_cons (lg_wsX7_digest_1 _ (List.mem_of_getElem? (i := 4) rfl)) (gi_cons (lg_wsX7_digest_0 _ (List.mem_of_getElem? (i := 10) rfl)) (gi_cons (lg_wsX7_digest_1 _ (List.mem_of_getElem? (i := 5) rfl)) (gi_cons (lg_wsX7_digest_1 _ (List.mem_of_getElem? (i := 6) rfl)) (gi_cons (lg_wsX7_digest_1 _ (List.mem_of_getElem? (i := 7) rfl)) (gi_cons (lg_wsX7_digest_1 _ (List.mem_of_getElem? (i := 8) rfl)) (gi_cons (lg_wsX7_digest_1 _ (List.mem_of_getElem? (i := 9) rfl)) (gi_cons (lg_wsX7_digest_1 _ (List.mem_of_getElem? (i := 10) rfl)) (gi_cons (lg_wsX7_digest_1 _ (List.mem_of_getElem? (i := 11) rfl)) gi_nil))))))))))))))))))) ls_wsX7_digest_0))
set_option maxRecDepth 20000 in
theorem gX7_digest_X7_share : GoodIn wsX7_digest (wsV RX7 277 RX7 yX7_share wsX7_share) := goodIn_app (gi_cons (lg_wsX7_digest_9 _ (List.mem_of_getElem? (i := 8) rfl)) (gi_cons (lg_wsX7_digest_9 _ (List.mem_of_getElem? (i := 9) rfl)) (gi_cons (lg_wsX7_digest_9 _ (List.mem_of_getElem? (i := 10) rfl)) (gi_cons (lg_wsX7_digest_0 _ (List.mem_of_getElem? (i := 8) rfl)) gi_nil)))) ggX7_digest_X7_share
set_option maxRecDepth 20000 in
theorem ggX7_digest_X7_bitsOf : GoodIn wsX7_digest wsX7_bitsOf := (gi_cons (lg_wsX7_digest_9 _ (List.mem_of_getElem? (i := 15) rfl)) (gi_cons (lg_wsX7_digest_9 _ (List.mem_of_getElem? (i := 16) rfl)) (gi_cons (lg_wsX7_digest_9 _ (List.mem_of_getElem? (i := 17) rfl)) (gi_cons (lg_wsX7_digest_9 _ (List.mem_of_getElem? (i := 18) rfl)) (gi_cons (lg_wsX7_digest_9 _ (List.mem_of_getElem? (i := 19) rfl)) gi_nil)))))
set_option maxRecDepth 20000 in
theorem gX7_digest_X7_bitsOf : GoodIn wsX7_digest (va_wsS RX7 307 yX7_bitsOf wsX7_bitsOf) := goodIn_app (gi_cons (lg_wsX7_digest_9 _ (List.mem_of_getElem? (i := 13) rfl)) (gi_cons (lg_wsX7_digest_9 _ (List.mem_of_getElem? (i := 14) rfl)) (gi_cons (lg_wsX7_digest_0 _ (List.mem_of_getElem? (i := 8) rfl)) gi_nil))) ggX7_digest_X7_bitsOf
theorem dX7_digest_0 : decode cX7_digest 0 = .ok (.aload_n 0, 1) := by decide +kernel
theorem dX7_digest_1 : decode cX7_digest 1 = .ok (.iconst 0, 1) := by decide +kernel
theorem dX7_digest_2 : decode cX7_digest 2 = .ok (.putfield 38, 3) := by decide +kernel
theorem dX7_digest_5 : decode cX7_digest 5 = .ok (.aload_n 0, 1) := by decide +kernel
theorem dX7_digest_6 : decode cX7_digest 6 = .ok (.ldc2_w 299, 3) := by decide +kernel
theorem dX7_digest_9 : decode cX7_digest 9 = .ok (.putfield 291, 3) := by decide +kernel
theorem dX7_digest_12 : decode cX7_digest 12 = .ok (.iconst 0, 1) := by decide +kernel
theorem dX7_digest_13 : decode cX7_digest 13 = .ok (.istore_n 1, 1) := by decide +kernel
theorem dX7_digest_14 : decode cX7_digest 14 = .ok (.iload_n 1, 1) := by decide +kernel
theorem dX7_digest_15 : decode cX7_digest 15 = .ok (.bipush 15, 2) := by decide +kernel
theorem dX7_digest_17 : decode cX7_digest 17 = .ok (.if_icmp .ge 19, 3) := by decide +kernel
theorem dX7_digest_20 : decode cX7_digest 20 = .ok (.aload_n 0, 1) := by decide +kernel
theorem dX7_digest_21 : decode cX7_digest 21 = .ok (.aload_n 0, 1) := by decide +kernel
theorem dX7_digest_22 : decode cX7_digest 22 = .ok (.iload_n 1, 1) := by decide +kernel
theorem dX7_digest_23 : decode cX7_digest 23 = .ok (.invokevirtual 251, 3) := by decide +kernel
theorem dX7_digest_26 : decode cX7_digest 26 = .ok (.i2l, 1) := by decide +kernel
theorem dX7_digest_27 : decode cX7_digest 27 = .ok (.invokevirtual 295, 3) := by decide +kernel
theorem dX7_digest_30 : decode cX7_digest 30 = .ok (.iinc 1 1, 3) := by decide +kernel
theorem dX7_digest_33 : decode cX7_digest 33 = .ok (.goto (-19), 3) := by decide +kernel
theorem dX7_digest_36 : decode cX7_digest 36 = .ok (.aload_n 0, 1) := by decide +kernel
theorem dX7_digest_37 : decode cX7_digest 37 = .ok (.invokevirtual 301, 3) := by decide +kernel
theorem dX7_digest_40 : decode cX7_digest 40 = .ok (.aload_n 0, 1) := by decide +kernel
theorem dX7_digest_41 : decode cX7_digest 41 = .ok (.invokevirtual 304, 3) := by decide +kernel
theorem dX7_digest_44 : decode cX7_digest 44 = .ok (.aload_n 0, 1) := by decide +kernel
theorem dX7_digest_45 : decode cX7_digest 45 = .ok (.aload_n 0, 1) := by decide +kernel
theorem dX7_digest_46 : decode cX7_digest 46 = .ok (.invokevirtual 266, 3) := by decide +kernel
theorem dX7_digest_49 : decode cX7_digest 49 = .ok (.i2l, 1) := by decide +kernel
theorem dX7_digest_50 : decode cX7_digest 50 = .ok (.invokevirtual 295, 3) := by decide +kernel
theorem dX7_digest_53 : decode cX7_digest 53 = .ok (.iconst 0, 1) := by decide +kernel
theorem dX7_digest_54 : decode cX7_digest 54 = .ok (.istore_n 1, 1) := by decide +kernel
theorem dX7_digest_55 : decode cX7_digest 55 = .ok (.iload_n 1, 1) := by decide +kernel
theorem dX7_digest_56 : decode cX7_digest 56 = .ok (.iconst 3, 1) := by decide +kernel
theorem dX7_digest_57 : decode cX7_digest 57 = .ok (.if_icmp .ge 20, 3) := by decide +kernel
theorem dX7_digest_60 : decode cX7_digest 60 = .ok (.aload_n 0, 1) := by decide +kernel
theorem dX7_digest_61 : decode cX7_digest 61 = .ok (.aload_n 0, 1) := by decide +kernel
theorem dX7_digest_62 : decode cX7_digest 62 = .ok (.iconst 5, 1) := by decide +kernel
theorem dX7_digest_63 : decode cX7_digest 63 = .ok (.iload_n 1, 1) := by decide +kernel
theorem dX7_digest_64 : decode cX7_digest 64 = .ok (.invokevirtual 269, 3) := by decide +kernel
theorem dX7_digest_67 : decode cX7_digest 67 = .ok (.i2l, 1) := by decide +kernel
theorem dX7_digest_68 : decode cX7_digest 68 = .ok (.invokevirtual 295, 3) := by decide +kernel
theorem dX7_digest_71 : decode cX7_digest 71 = .ok (.iinc 1 1, 3) := by decide +kernel
theorem dX7_digest_74 : decode cX7_digest 74 = .ok (.goto (-19), 3) := by decide +kernel
theorem dX7_digest_77 : decode cX7_digest 77 = .ok (.aload_n 0, 1) := by decide +kernel
theorem dX7_digest_78 : decode cX7_digest 78 = .ok (.aload_n 0, 1) := by decide +kernel
theorem dX7_digest_79 : decode cX7_digest 79 = .ok (.invokevirtual 272, 3) := by decide +kernel
theorem dX7_digest_82 : decode cX7_digest 82 = .ok (.i2l, 1) := by decide +kernel
theorem dX7_digest_83 : decode cX7_digest 83 = .ok (.invokevirtual 295, 3) := by decide +kernel
theorem dX7_digest_86 : decode cX7_digest 86 = .ok (.aload_n 0, 1) := by decide +kernel
theorem dX7_digest_87 : decode cX7_digest 87 = .ok (.aload_n 0, 1) := by decide +kernel
theorem dX7_digest_88 : decode cX7_digest 88 = .ok (.invokevirtual 277, 3) := by decide +kernel
theorem dX7_digest_91 : decode cX7_digest 91 = .ok (.invokestatic 307, 3) := by decide +kernel
theorem dX7_digest_94 : decode cX7_digest 94 = .ok (.invokevirtual 295, 3) := by decide +kernel
theorem dX7_digest_97 : decode cX7_digest 97 = .ok (.aload_n 0, 1) := by decide +kernel
theorem dX7_digest_98 : decode cX7_digest 98 = .ok (.aload_n 0, 1) := by decide +kernel
theorem dX7_digest_99 : decode cX7_digest 99 = .ok (.getfield 167, 3) := by decide +kernel
theorem dX7_digest_102 : decode cX7_digest 102 = .ok (.i2l, 1) := by decide +kernel
theorem dX7_digest_103 : decode cX7_digest 103 = .ok (.invokevirtual 295, 3) := by decide +kernel
theorem dX7_digest_106 : decode cX7_digest 106 = .ok (.iconst 0, 1) := by decide +kernel
theorem dX7_digest_107 : decode cX7_digest 107 = .ok (.istore_n 1, 1) := by decide +kernel
theorem dX7_digest_108 : decode cX7_digest 108 = .ok (.iload_n 1, 1) := by decide +kernel
theorem dX7_digest_109 : decode cX7_digest 109 = .ok (.aload_n 0, 1) := by decide +kernel
theorem dX7_digest_110 : decode cX7_digest 110 = .ok (.getfield 167, 3) := by decide +kernel
theorem dX7_digest_113 : decode cX7_digest 113 = .ok (.if_icmp .ge 20, 3) := by decide +kernel
theorem dX7_digest_116 : decode cX7_digest 116 = .ok (.aload_n 0, 1) := by decide +kernel
theorem dX7_digest_117 : decode cX7_digest 117 = .ok (.aload_n 0, 1) := by decide +kernel
theorem dX7_digest_118 : decode cX7_digest 118 = .ok (.getfield 22, 3) := by decide +kernel
theorem dX7_digest_121 : decode cX7_digest 121 = .ok (.iload_n 1, 1) := by decide +kernel
theorem dX7_digest_122 : decode cX7_digest 122 = .ok (.iaload, 1) := by decide +kernel
theorem dX7_digest_123 : decode cX7_digest 123 = .ok (.i2l, 1) := by decide +kernel
theorem dX7_digest_124 : decode cX7_digest 124 = .ok (.invokevirtual 295, 3) := by decide +kernel
theorem dX7_digest_127 : decode cX7_digest 127 = .ok (.iinc 1 1, 3) := by decide +kernel
theorem dX7_digest_130 : decode cX7_digest 130 = .ok (.goto (-22), 3) := by decide +kernel
theorem dX7_digest_133 : decode cX7_digest 133 = .ok (.aload_n 0, 1) := by decide +kernel
theorem dX7_digest_134 : decode cX7_digest 134 = .ok (.getfield 291, 3) := by decide +kernel
theorem dX7_digest_137 : decode cX7_digest 137 = .ok (.lreturn, 1) := by decide +kernel
theorem dJ9_min_7cf53_0 : decode cJ9_min_7cf53 0 = .ok (.iload_n 0, 1) := by decide +kernel
theorem dJ9_min_7cf53_1 : decode cJ9_min_7cf53 1 = .ok (.iload_n 1, 1) := by decide +kernel
theorem dJ9_min_7cf53_2 : decode cJ9_min_7cf53 2 = .ok (.if_icmp .gt 7, 3) := by decide +kernel
theorem dJ9_min_7cf53_5 : decode cJ9_min_7cf53 5 = .ok (.iload_n 0, 1) := by decide +kernel
theorem dJ9_min_7cf53_6 : decode cJ9_min_7cf53 6 = .ok (.goto 4, 3) := by decide +kernel
theorem dJ9_min_7cf53_9 : decode cJ9_min_7cf53 9 = .ok (.iload_n 1, 1) := by decide +kernel
theorem dJ9_min_7cf53_10 : decode cJ9_min_7cf53 10 = .ok (.ireturn, 1) := by decide +kernel
